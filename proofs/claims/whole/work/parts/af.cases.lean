/-! The law's cases of the calls that change something, or throw. -/
section
variable {a : eRow} {X : xT} {x y z u v w : Int}
def UQ (yL yM : Nat) (as : eL) (a : eRow) (X : xT) : Prop := ∃ (a' : eRow) (X' : xT) (t v : Int), (0 ≤ t ∧ t ≤ 2) ∧ KL yL as a X a' X' t v ∧ KM yM as a X a' X' t v
def UV (yS yM : Nat) (a : eRow) (X : xT) : Prop := ∃ (a' : eRow) (X' : xT) (v : Int), SC yS [] a X a' X' v ∧ KM yM [] a X a' X' 0 v
theorem u_errorCode : UV m_S_errorCode m_M_errorCode a X := ⟨_, _, _, sc_errorCode rfl, km_errorCode⟩
theorem u_errorPosition : UV m_S_errorPosition m_M_errorPosition a X := ⟨_, _, _, sc_errorPosition rfl, km_errorPosition⟩
theorem u_findWord : UV m_S_findWord m_M_findWord a X := ⟨_, _, _, sc_findWord rfl, km_findWord⟩
theorem u_stateAtEnd : UV m_S_stateAtEnd m_M_stateAtEnd a X := ⟨_, _, _, sc_stateAtEnd rfl, km_stateAtEnd⟩
theorem u_stepsToEnd : UV m_S_stepsToEnd m_M_stepsToEnd a X := by
  cases hb : cnS (sv 200 a) with
  | false => exact ⟨_, _, _, sc_stepsToEnd hb rfl, km_stepsToEnd hb⟩
  | true => exact ⟨_, _, _, sc_stepsToEndN hb rfl, km_stepsToEndN hb⟩
theorem u_takeBack : UQ m_L_takeBack m_M_takeBack [] a X := by
  by_cases h : 0 < a 5
  · exact ⟨_, _, 0, _, by omega, kl_takeBack (sc_takeBack h rfl), km_takeBack h⟩
  · exact ⟨_, _, 1, 0, by omega, kl_takeBackX (sc_takeBackX (by omega)), km_takeBackX (by omega)⟩
theorem u_step : UQ m_L_step m_M_step [] a X := by
  cases hb : cnS a with
  | true => exact ⟨_, _, 0, _, by omega, kl_step (sc_step hb rfl), km_step hb⟩
  | false => exact ⟨_, _, 1, 0, by omega, kl_stepX (sc_stepX hb), km_stepX hb⟩
theorem u_solve (bx : -2147483648 ≤ x ∧ x < 2147483648) : UQ m_L_solve m_M_solve [some (eI x)] a X := by
  by_cases h : 1 ≤ x ∧ x ≤ 200
  · obtain ⟨m, hx⟩ : ∃ m : Nat, x = (m : Int) := ⟨x.toNat, by omega⟩
    exact ⟨_, _, 0, _, by omega, kl_solve (sc_solve hx (by omega) (by omega) rfl), km_solve hx (by omega) (by omega)⟩
  · exact ⟨_, _, 1, 0, by omega, kl_solveX (sc_solveX bx h), km_solveX bx h⟩
theorem u_undo : UQ m_L_undo m_M_undo [] a X := by
  by_cases h : X.1.1 = 0
  · exact ⟨_, _, 1, 0, by omega, kl_undoX (sc_undoX h), km_undoX h⟩
  · exact ⟨_, _, 0, _, by omega, kl_undo (sc_undo h rfl), km_undo h⟩
theorem u_restore (bx : -2147483648 ≤ x ∧ x < 2147483648) : UQ m_L_restore m_M_restore [some (eI x)] a X := by
  by_cases h : 0 ≤ x ∧ x < 2
  · obtain ⟨n, hx⟩ : ∃ n : Nat, x = (n : Int) := ⟨x.toNat, by omega⟩
    have hn : n < 2 := by omega
    cases hr : X.2.1 n with
    | none => exact ⟨_, _, 2, 0, by omega, kl_restoreX2 (sc_restoreN hx hn hr), km_restoreN hx hn hr⟩
    | some r => exact ⟨_, _, 0, _, by omega, kl_restore (sc_restore hx hn hr rfl), km_restore hx hn hr⟩
  · exact ⟨_, _, 1, 0, by omega, kl_restoreX1 (sc_restoreX bx h), km_restoreX bx h⟩
theorem u_save (bx : -2147483648 ≤ x ∧ x < 2147483648) : UQ m_L_save m_M_save [some (eI x)] a X := by
  by_cases h : 0 ≤ x ∧ x < 2
  · obtain ⟨n, hx⟩ : ∃ n : Nat, x = (n : Int) := ⟨x.toNat, by omega⟩
    have hn : n < 2 := by omega
    exact ⟨_, _, 0, _, by omega, kl_save (sc_save hx hn rfl), km_save hx hn⟩
  · exact ⟨_, _, 1, 0, by omega, kl_saveX (sc_saveX bx h), km_saveX bx h⟩
theorem u_guess (bx : -2147483648 ≤ x ∧ x < 2147483648) (by_ : -2147483648 ≤ y ∧ y < 2147483648) : UQ m_L_guess m_M_guess [some (eI x), some (eI y)] a X := by
  by_cases h : 0 ≤ x ∧ x < (a 3 : Int)
  · obtain ⟨k, hx⟩ : ∃ n : Nat, x = (n : Int) := ⟨x.toNat, by omega⟩
    have h1 : k < a 3 := by omega
    by_cases h2 : 0 ≤ y ∧ y < (a 2 : Int)
    · obtain ⟨w, hy⟩ : ∃ n : Nat, y = (n : Int) := ⟨y.toNat, by omega⟩
      have h3 : w < a 2 := by omega
      by_cases h0 : rfs (a 4) ((op a k).testBit w) (decide (pc 30 (op a k) = 1)) = 0
      · exact ⟨_, _, 0, _, by omega, kl_guess (sc_guess hx h1 hy h3 h0 rfl), km_guess hx h1 hy h3 h0⟩
      · exact ⟨_, _, 2, 0, by omega, kl_guessX2 (sc_guessN hx h1 hy h3 h0), km_guessN hx h1 hy h3 h0⟩
    · exact ⟨_, _, 1, 0, by omega, kl_guessX1 (sc_guessY hx h1 by_ h2), km_guessY hx h1 by_ h2⟩
  · exact ⟨_, _, 1, 0, by omega, kl_guessX1 (sc_guessX bx h), km_guessX bx h⟩
theorem u_leftAfter (bx : -2147483648 ≤ x ∧ x < 2147483648) (by_ : -2147483648 ≤ y ∧ y < 2147483648) : UQ m_L_leftAfter m_M_leftAfter [some (eI x), some (eI y)] a X := by
  by_cases h : 0 ≤ x ∧ x < (a 3 : Int)
  · obtain ⟨k, hx⟩ : ∃ n : Nat, x = (n : Int) := ⟨x.toNat, by omega⟩
    have h1 : k < a 3 := by omega
    by_cases h2 : 0 ≤ y ∧ y < (a 2 : Int)
    · obtain ⟨w, hy⟩ : ∃ n : Nat, y = (n : Int) := ⟨y.toNat, by omega⟩
      have h3 : w < a 2 := by omega
      by_cases h0 : rfs (a 4) ((op a k).testBit w) (decide (pc 30 (op a k) = 1)) = 0
      · exact ⟨_, _, 0, _, by omega, kl_leftAfter (sc_leftAfter hx h1 hy h3 h0 rfl), km_leftAfter hx h1 hy h3 h0⟩
      · exact ⟨_, _, 0, _, by omega, kl_leftAfter (sc_leftAfterN hx h1 hy h3 h0 rfl), km_leftAfterN hx h1 hy h3 h0⟩
    · exact ⟨_, _, 1, 0, by omega, kl_leftAfterX (sc_leftAfterY hx h1 by_ h2), km_leftAfterY hx h1 by_ h2⟩
  · exact ⟨_, _, 1, 0, by omega, kl_leftAfterX (sc_leftAfterX bx h), km_leftAfterX bx h⟩
theorem u_wouldStick (bx : -2147483648 ≤ x ∧ x < 2147483648) (by_ : -2147483648 ≤ y ∧ y < 2147483648) : ∃ (a' : eRow) (X' : xT) (t v : Int), (0 ≤ t ∧ t ≤ 2) ∧ (t = 0 → v = 1 ∨ v = 0) ∧ KL m_L_wouldStick [some (eI x), some (eI y)] a X a' X' t v ∧ KM m_M_wouldStick [some (eI x), some (eI y)] a X a' X' t v := by
  by_cases h : 0 ≤ x ∧ x < (a 3 : Int)
  · obtain ⟨k, hx⟩ : ∃ n : Nat, x = (n : Int) := ⟨x.toNat, by omega⟩
    have h1 : k < a 3 := by omega
    by_cases h2 : 0 ≤ y ∧ y < (a 2 : Int)
    · obtain ⟨w, hy⟩ : ∃ n : Nat, y = (n : Int) := ⟨y.toNat, by omega⟩
      have h3 : w < a 2 := by omega
      by_cases h0 : rfs (a 4) ((op a k).testBit w) (decide (pc 30 (op a k) = 1)) = 0
      · by_cases h4 : gsA a k w 4 = 2
        · exact ⟨_, _, 0, 1, by omega, fun _ => Or.inl rfl, kl_wouldStick1 (sc_wouldStick1 hx h1 hy h3 h0 h4 rfl) rfl, km_wouldStick1 hx h1 hy h3 h0 h4⟩
        · exact ⟨_, _, 0, 0, by omega, fun _ => Or.inr rfl, kl_wouldStick0 (sc_wouldStick0 hx h1 hy h3 h0 h4 rfl) rfl, km_wouldStick0 hx h1 hy h3 h0 h4⟩
      · exact ⟨_, _, 0, 0, by omega, fun _ => Or.inr rfl, kl_wouldStick0 (sc_wouldStickN hx h1 hy h3 h0 rfl) rfl, km_wouldStickN hx h1 hy h3 h0⟩
    · exact ⟨_, _, 1, 0, by omega, fun _ => Or.inr rfl, kl_wouldStickX (sc_wouldStickY hx h1 by_ h2), km_wouldStickY hx h1 by_ h2⟩
  · exact ⟨_, _, 1, 0, by omega, fun _ => Or.inr rfl, kl_wouldStickX (sc_wouldStickX bx h), km_wouldStickX bx h⟩
theorem u_truncateInput (bx : -2147483648 ≤ x ∧ x < 2147483648) : UQ m_L_truncateInput m_M_truncateInput [some (eI x)] a X := by
  by_cases h : 0 ≤ x ∧ x ≤ (X.2.2.1.1 : Int)
  · obtain ⟨n, hx⟩ : ∃ n : Nat, x = (n : Int) := ⟨x.toNat, by omega⟩
    exact ⟨_, _, 0, _, by omega, kl_truncateInput (sc_truncateInput hx (by omega) rfl), km_truncateInput hx (by omega)⟩
  · exact ⟨_, _, 1, 0, by omega, kl_truncateInputX (sc_truncateInputX bx h), km_truncateInputX bx h⟩
theorem u_outputByte (bx : -2147483648 ≤ x ∧ x < 2147483648) : UQ m_L_outputByte m_M_outputByte [some (eI x)] a X := by
  by_cases h : 0 ≤ x ∧ x < (X.2.2.2.2.1 : Int)
  · obtain ⟨n, hx⟩ : ∃ n : Nat, x = (n : Int) := ⟨x.toNat, by omega⟩
    exact ⟨_, _, 0, _, by omega, kl_outputByte (sc_outputByte hx (by omega) rfl), km_outputByte hx (by omega)⟩
  · exact ⟨_, _, 1, 0, by omega, kl_outputByteX (sc_outputByteX bx h), km_outputByteX bx h⟩
theorem u_writeRow (bx : -2147483648 ≤ x ∧ x < 2147483648) : UQ m_L_writeRow m_M_writeRow [some (eI x)] a X := by
  by_cases h : 0 ≤ x ∧ x < (a 1 : Int)
  · obtain ⟨n, hx⟩ : ∃ n : Nat, x = (n : Int) := ⟨x.toNat, by omega⟩
    exact ⟨_, _, 0, _, by omega, kl_writeRow (sc_writeRow hx (by omega) rfl), km_writeRow hx (by omega) (fun e he h => suA_97 h)⟩
  · exact ⟨_, _, 1, 0, by omega, kl_writeRowX (sc_writeRowX bx h), km_writeRowX bx h⟩
theorem u_appendInput (_ : -2147483648 ≤ x ∧ x < 2147483648) (_ : -2147483648 ≤ y ∧ y < 2147483648) (_ : -2147483648 ≤ z ∧ z < 2147483648) (_ : -2147483648 ≤ u ∧ u < 2147483648) (_ : -2147483648 ≤ v ∧ v < 2147483648) : UQ m_L_appendInput m_M_appendInput [some (eI x), some (eI y), some (eI z), some (eI u), some (eI v)] a X := by
  by_cases h : X.2.2.1.1 + 20 ≤ 600
  · exact ⟨_, _, 0, _, by omega, kl_appendInput (sc_appendInput rfl h rfl), km_appendInput rfl h⟩
  · exact ⟨_, _, 1, 0, by omega, kl_appendInputX (sc_appendInputX h), km_appendInputX h⟩
theorem u_setLetter (bx : -2147483648 ≤ x ∧ x < 2147483648) (by_ : -2147483648 ≤ y ∧ y < 2147483648) (bz : -2147483648 ≤ z ∧ z < 2147483648) : UQ m_L_setLetter m_M_setLetter [some (eI x), some (eI y), some (eI z)] a X := by
  by_cases h : inG (a 0) (a 1) x y = true
  · have h9 := of_decide_eq_true h
    obtain ⟨xn, hx⟩ : ∃ n : Nat, x = (n : Int) := ⟨x.toNat, by omega⟩
    obtain ⟨yn, hy⟩ : ∃ n : Nat, y = (n : Int) := ⟨y.toNat, by omega⟩
    have h1 : xn < a 0 := by omega
    have h2 : yn < a 1 := by omega
    by_cases hz0 : z = 0
    · have hz : z = ((0 : Nat) : Int) := hz0
      by_cases hb : a (16 + (6 * yn + xn)) = 0
      · exact ⟨_, _, 0, _, by omega, kl_setLetter (sc_setLetter hx hy h1 h2 hz hz0 hb rfl), km_setLetter hx hy h1 h2 hz hz0 hb⟩
      · exact ⟨_, _, 2, 0, by omega, kl_setLetterX2 (sc_setLetterB hx hy h1 h2 hz hz0 hb), km_setLetterB hx hy h1 h2 hz hz0 hb⟩
    · by_cases hz1 : 97 ≤ z ∧ z ≤ 122
      · obtain ⟨l, hz⟩ : ∃ n : Nat, z = (n : Int) := ⟨z.toNat, by omega⟩
        by_cases hb : a (16 + (6 * yn + xn)) = 0
        · exact ⟨_, _, 0, _, by omega, kl_setLetter (sc_setLetterL hx hy h1 h2 hz hz1 hb rfl), km_setLetterL hx hy h1 h2 hz hz1 hb⟩
        · exact ⟨_, _, 2, 0, by omega, kl_setLetterX2 (sc_setLetterLB hx hy h1 h2 hz hz1 hb), km_setLetterLB hx hy h1 h2 hz hz1 hb⟩
      · exact ⟨_, _, 1, 0, by omega, kl_setLetterX1 (sc_setLetterZ hx hy h1 h2 bz hz0 hz1), km_setLetterZ hx hy h1 h2 bz hz0 hz1⟩
  · have h : inG (a 0) (a 1) x y = false := by
      cases hb : inG (a 0) (a 1) x y with
      | false => rfl
      | true => exact absurd hb h
    exact ⟨_, _, 1, 0, by omega, kl_setLetterX1 (sc_setLetterX bx by_ h), km_setLetterX bx by_ h⟩
theorem u_addWord (h30 : a 2 ≤ 30) (bx : -2147483648 ≤ x ∧ x < 2147483648) : UQ m_L_addWord m_M_addWord [some (eI x)] a X := by
  by_cases h : ∃ cd : Nat, x = (cd : Int) ∧ loN cd ≠ 0
  · obtain ⟨cd, hx, hl⟩ := h
    have hc : cd < 2147483648 := by omega
    by_cases h3 : a 2 < 30
    · by_cases hf : fnd (fun k => decide (a (88 + k) = cd)) (a 2) 0 = -1
      · exact ⟨_, _, 0, _, by omega, kl_addWord (sc_addWord hx hc hl h3 hf rfl), km_addWord hx hc hl h3 hf⟩
      · exact ⟨_, _, 2, 0, by omega, kl_addWordX2 (sc_addWordF hx hc hl h3 hf), km_addWordF hx hc hl h3 hf⟩
    · have h3 : a 2 = 30 := by omega
      exact ⟨_, _, 2, 0, by omega, kl_addWordX2 (sc_addWordM hx hc hl h3), km_addWordM hx hc hl h3⟩
  · have hl : ∀ cd : Nat, x = (cd : Int) → loN cd = 0 := fun cd hx => Classical.byContradiction fun h2 => h ⟨cd, hx, h2⟩
    exact ⟨_, _, 1, 0, by omega, kl_addWordX1 (sc_addWordX bx hl), km_addWordX bx hl⟩
theorem u_load : UQ m_L_load m_M_load [] a X := by
  cases he : erT (txS X.2.2.1.2 X.2.2.1.1) with
  | some z => exact ⟨_, _, 1, 0, by omega, kl_loadX (sc_loadX he), km_loadX he⟩
  | none =>
    cases ht : txS X.2.2.1.2 X.2.2.1.1 with
    | inl z => rw [ht] at he; cases he
    | inr q =>
      obtain ⟨q1, r⟩ := q
      rw [ht] at he
      have he : q1 = none := he
      subst he
      exact ⟨_, _, 0, _, by omega, kl_load (sc_load ht rfl), km_load ht⟩
end
set_option maxRecDepth 100000
theorem k_takeBack {V : List eC} {d : Nat × Nat} {L j : Nat} {f : Nat → Int} {i : Int} {Q : (Option eV ⊕ Nat) × eW → Prop} (hi : i = (j : Int)) (hj : j + 6 ≤ L) (hL : L ≤ 3072) (hr : ∀ k, -2147483648 ≤ f k ∧ f k < 2147483648) (h : LI V L f) (hK : ∀ V' d', LI V' L f → dl d d' → Rs (ev m_L_law 3064 [some (eR 0), some (eR 1), some (eR 70), some (eR 81), some (eI i)] [] (V', d')) Q) : Rs (ev m_L_law 2652 [some (eR 0), some (eR 1), some (eR 70), some (eR 81), some (eI i)] [] (V, d)) Q := by
  obtain ⟨a, x, t0, ot, C, M, h0, h81⟩ := h
  obtain ⟨P1, h1⟩ := CI_1 C
  obtain ⟨P70, h70⟩ := MI_70 M
  have hI : iA a := CI_I C
  obtain ⟨a2, x2, t, v, ht, hq, hn⟩ := u_takeBack (a := a) (X := x) 
  by_cases ht0 : t = 0
  · obtain ⟨V2, ot2, d2, q2, C2, o2, t2, fr2, dl2⟩ := hq V d ot C h81
    have h02 := (fr2.2 0 (by omega)).trans h0
    have h702 := (fr2.2 70 (by omega)).trans h70
    obtain ⟨P2, h12⟩ := CI_1 C2
    refine rOf (fun R9 hR9 => xCall (N := 3) (M2 := m_L_law) (pc2 := 2654) (ls2 := [some (eR 0), some (eR 1), some (eR 70), some (eR 81), some (eI i)]) (st2 := []) (y := m_L_takeBack) (as := [some (eR 1), some (eR 81)]) (w2 := (V, d)) rfl q2 hR9) ?_
    obtain ⟨V3, b3, q3, M3, hb3, fm3⟩ := kmV (d := d2) hn (MI_fr (fun k hk => fr2.2 k (by omega)) M) rfl
    have h03 := (fm3.2 0 (by omega)).trans h02
    have h13 := (fm3.2 1 (by omega)).trans h12
    have h813 := (fm3.2 81 (by omega)).trans o2
    obtain ⟨P3, h703⟩ := MI_70 M3
    have C3 := CI_fr (Nat.le_of_eq fm3.1.symm) (fun k hk => fm3.2 k (by omega)) C2
    refine rOf (fun R9 hR9 => xCallA1 (N := 3) (M2 := m_L_law) (pc2 := 2660) (y := m_M_takeBack) (n := 1) (ls2 := [some (eR 0), some (eR 1), some (eR 70), some (eR 81), some (eI i), some (eI t)]) (st2 := []) (st9 := [eR 70]) (V := V2) (d := d2) (r := 70) (bs := []) rfl rfl h702 rfl q3 hR9) ?_
    refine rOf (fun R9 hR9 => xCallA1 (N := 3) (M2 := m_L_law) (pc2 := 2666) (y := m_M_thrown) (n := 1) (ls2 := [some (eR 0), some (eR 1), some (eR 70), some (eR 81), some (eI i), some (eI t), some (eI b3)]) (st2 := []) (st9 := [eR 70]) (V := V3) (d := d2) (r := 70) (bs := []) rfl rfl h703 rfl (thrV M3) hR9) ?_
    refine rOf (fun R9 hR9 => xEqT (N := 2) (x := t) (y := t) (A := ev m_L_law 2676 [some (eR 0), some (eR 1), some (eR 70), some (eR 81), some (eI i), some (eI t), some (eI b3)] [] (V3, d2)) (B := ev m_L_law 2674 [some (eR 0), some (eR 1), some (eR 70), some (eR 81), some (eI i), some (eI t), some (eI b3)] [] (V3, d2)) rfl rfl rfl rfl hR9) ?_
    refine rOf (fun R9 hR9 => xEqT (N := 2) (x := t) (y := 0) (A := ev m_L_law 2681 [some (eR 0), some (eR 1), some (eR 70), some (eR 81), some (eI i), some (eI t), some (eI b3)] [] (V3, d2)) (B := ev m_L_law 2693 [some (eR 0), some (eR 1), some (eR 70), some (eR 81), some (eI i), some (eI t), some (eI b3)] [] (V3, d2)) rfl (wr_id (by omega) (by omega)) (show wr 0 = 0 by decide) (by omega) hR9) ?_
    refine rOf (fun R9 hR9 => xLdV (N := 3) (M2 := m_L_law) (pc2 := 2683) (r := 81) (ls2 := [some (eR 0), some (eR 1), some (eR 70), some (eR 81), some (eI i), some (eI t), some (eI b3)]) (st2 := []) (V := V3) (d := d2) (i := 0) (k := 0) (ok := eOkJ) (mk := fun x => .inr (.inr (.inl x))) rfl h813 rfl (show wr 0 = ((0 : Nat) : Int) by decide) (by omega) hR9) ?_
    refine rOf (fun R9 hR9 => xEqT (N := 4) (x := bLcmp (ot2 0) (wr b3)) (y := 0) (A := ev m_L_law 2693 [some (eR 0), some (eR 1), some (eR 70), some (eR 81), some (eI i), some (eI t), some (eI b3)] [] (V3, d2)) (B := ev m_L_law 2691 [some (eR 0), some (eR 1), some (eR 70), some (eR 81), some (eI i), some (eI t), some (eI b3)] [] (V3, d2)) rfl (by rw [t2 ht0, hb3 ht0]; exact wrcmp) (show wr 0 = 0 by decide) rfl hR9) ?_
    refine rOf (fun R9 hR9 => xSeg (N := 1) (r := ev m_L_law 3064 [some (eR 0), some (eR 1), some (eR 70), some (eR 81), some (eI i), some (eI t), some (eI b3)] [] (V3, d2)) rfl hR9) ?_
    refine rOf (fun R9 hR9 => xTk 5 (by rfl) rfl hR9) ?_
    exact hK V3 d2 ⟨a2, x2, t, ot2, C3, M3, h03, h813⟩ dl2
  · obtain ⟨V2, ot2, d2, q2, C2, o2, t2, fr2, dl2⟩ := hq V d ot C h81
    have h02 := (fr2.2 0 (by omega)).trans h0
    have h702 := (fr2.2 70 (by omega)).trans h70
    obtain ⟨P2, h12⟩ := CI_1 C2
    refine rOf (fun R9 hR9 => xCall (N := 3) (M2 := m_L_law) (pc2 := 2654) (ls2 := [some (eR 0), some (eR 1), some (eR 70), some (eR 81), some (eI i)]) (st2 := []) (y := m_L_takeBack) (as := [some (eR 1), some (eR 81)]) (w2 := (V, d)) rfl q2 hR9) ?_
    obtain ⟨V3, b3, q3, M3, hb3, fm3⟩ := kmV (d := d2) hn (MI_fr (fun k hk => fr2.2 k (by omega)) M) rfl
    have h03 := (fm3.2 0 (by omega)).trans h02
    have h13 := (fm3.2 1 (by omega)).trans h12
    have h813 := (fm3.2 81 (by omega)).trans o2
    obtain ⟨P3, h703⟩ := MI_70 M3
    have C3 := CI_fr (Nat.le_of_eq fm3.1.symm) (fun k hk => fm3.2 k (by omega)) C2
    refine rOf (fun R9 hR9 => xCallA1 (N := 3) (M2 := m_L_law) (pc2 := 2660) (y := m_M_takeBack) (n := 1) (ls2 := [some (eR 0), some (eR 1), some (eR 70), some (eR 81), some (eI i), some (eI t)]) (st2 := []) (st9 := [eR 70]) (V := V2) (d := d2) (r := 70) (bs := []) rfl rfl h702 rfl q3 hR9) ?_
    refine rOf (fun R9 hR9 => xCallA1 (N := 3) (M2 := m_L_law) (pc2 := 2666) (y := m_M_thrown) (n := 1) (ls2 := [some (eR 0), some (eR 1), some (eR 70), some (eR 81), some (eI i), some (eI t), some (eI b3)]) (st2 := []) (st9 := [eR 70]) (V := V3) (d := d2) (r := 70) (bs := []) rfl rfl h703 rfl (thrV M3) hR9) ?_
    refine rOf (fun R9 hR9 => xEqT (N := 2) (x := t) (y := t) (A := ev m_L_law 2676 [some (eR 0), some (eR 1), some (eR 70), some (eR 81), some (eI i), some (eI t), some (eI b3)] [] (V3, d2)) (B := ev m_L_law 2674 [some (eR 0), some (eR 1), some (eR 70), some (eR 81), some (eI i), some (eI t), some (eI b3)] [] (V3, d2)) rfl rfl rfl rfl hR9) ?_
    refine rOf (fun R9 hR9 => xEqF (N := 2) (x := t) (y := 0) (A := ev m_L_law 2681 [some (eR 0), some (eR 1), some (eR 70), some (eR 81), some (eI i), some (eI t), some (eI b3)] [] (V3, d2)) (B := ev m_L_law 2693 [some (eR 0), some (eR 1), some (eR 70), some (eR 81), some (eI i), some (eI t), some (eI b3)] [] (V3, d2)) rfl (wr_id (by omega) (by omega)) (show wr 0 = 0 by decide) (by omega) hR9) ?_
    refine rOf (fun R9 hR9 => xSeg (N := 1) (r := ev m_L_law 3064 [some (eR 0), some (eR 1), some (eR 70), some (eR 81), some (eI i), some (eI t), some (eI b3)] [] (V3, d2)) rfl hR9) ?_
    refine rOf (fun R9 hR9 => xTk 5 (by rfl) rfl hR9) ?_
    exact hK V3 d2 ⟨a2, x2, t, ot2, C3, M3, h03, h813⟩ dl2
theorem k_step {V : List eC} {d : Nat × Nat} {L j : Nat} {f : Nat → Int} {i : Int} {Q : (Option eV ⊕ Nat) × eW → Prop} (hi : i = (j : Int)) (hj : j + 6 ≤ L) (hL : L ≤ 3072) (hr : ∀ k, -2147483648 ≤ f k ∧ f k < 2147483648) (h : LI V L f) (hK : ∀ V' d', LI V' L f → dl d d' → Rs (ev m_L_law 3064 [some (eR 0), some (eR 1), some (eR 70), some (eR 81), some (eI i)] [] (V', d')) Q) : Rs (ev m_L_law 2696 [some (eR 0), some (eR 1), some (eR 70), some (eR 81), some (eI i)] [] (V, d)) Q := by
  obtain ⟨a, x, t0, ot, C, M, h0, h81⟩ := h
  obtain ⟨P1, h1⟩ := CI_1 C
  obtain ⟨P70, h70⟩ := MI_70 M
  have hI : iA a := CI_I C
  obtain ⟨a2, x2, t, v, ht, hq, hn⟩ := u_step (a := a) (X := x) 
  by_cases ht0 : t = 0
  · obtain ⟨V2, ot2, d2, q2, C2, o2, t2, fr2, dl2⟩ := hq V d ot C h81
    have h02 := (fr2.2 0 (by omega)).trans h0
    have h702 := (fr2.2 70 (by omega)).trans h70
    obtain ⟨P2, h12⟩ := CI_1 C2
    refine rOf (fun R9 hR9 => xCall (N := 3) (M2 := m_L_law) (pc2 := 2698) (ls2 := [some (eR 0), some (eR 1), some (eR 70), some (eR 81), some (eI i)]) (st2 := []) (y := m_L_step) (as := [some (eR 1), some (eR 81)]) (w2 := (V, d)) rfl q2 hR9) ?_
    obtain ⟨V3, b3, q3, M3, hb3, fm3⟩ := kmV (d := d2) hn (MI_fr (fun k hk => fr2.2 k (by omega)) M) rfl
    have h03 := (fm3.2 0 (by omega)).trans h02
    have h13 := (fm3.2 1 (by omega)).trans h12
    have h813 := (fm3.2 81 (by omega)).trans o2
    obtain ⟨P3, h703⟩ := MI_70 M3
    have C3 := CI_fr (Nat.le_of_eq fm3.1.symm) (fun k hk => fm3.2 k (by omega)) C2
    refine rOf (fun R9 hR9 => xCallA1 (N := 3) (M2 := m_L_law) (pc2 := 2704) (y := m_M_step) (n := 1) (ls2 := [some (eR 0), some (eR 1), some (eR 70), some (eR 81), some (eI i), some (eI t)]) (st2 := []) (st9 := [eR 70]) (V := V2) (d := d2) (r := 70) (bs := []) rfl rfl h702 rfl q3 hR9) ?_
    refine rOf (fun R9 hR9 => xCallA1 (N := 3) (M2 := m_L_law) (pc2 := 2710) (y := m_M_thrown) (n := 1) (ls2 := [some (eR 0), some (eR 1), some (eR 70), some (eR 81), some (eI i), some (eI t), some (eI b3)]) (st2 := []) (st9 := [eR 70]) (V := V3) (d := d2) (r := 70) (bs := []) rfl rfl h703 rfl (thrV M3) hR9) ?_
    refine rOf (fun R9 hR9 => xEqT (N := 2) (x := t) (y := t) (A := ev m_L_law 2720 [some (eR 0), some (eR 1), some (eR 70), some (eR 81), some (eI i), some (eI t), some (eI b3)] [] (V3, d2)) (B := ev m_L_law 2718 [some (eR 0), some (eR 1), some (eR 70), some (eR 81), some (eI i), some (eI t), some (eI b3)] [] (V3, d2)) rfl rfl rfl rfl hR9) ?_
    refine rOf (fun R9 hR9 => xEqT (N := 2) (x := t) (y := 0) (A := ev m_L_law 2725 [some (eR 0), some (eR 1), some (eR 70), some (eR 81), some (eI i), some (eI t), some (eI b3)] [] (V3, d2)) (B := ev m_L_law 2737 [some (eR 0), some (eR 1), some (eR 70), some (eR 81), some (eI i), some (eI t), some (eI b3)] [] (V3, d2)) rfl (wr_id (by omega) (by omega)) (show wr 0 = 0 by decide) (by omega) hR9) ?_
    refine rOf (fun R9 hR9 => xLdV (N := 3) (M2 := m_L_law) (pc2 := 2727) (r := 81) (ls2 := [some (eR 0), some (eR 1), some (eR 70), some (eR 81), some (eI i), some (eI t), some (eI b3)]) (st2 := []) (V := V3) (d := d2) (i := 0) (k := 0) (ok := eOkJ) (mk := fun x => .inr (.inr (.inl x))) rfl h813 rfl (show wr 0 = ((0 : Nat) : Int) by decide) (by omega) hR9) ?_
    refine rOf (fun R9 hR9 => xEqT (N := 4) (x := bLcmp (ot2 0) (wr b3)) (y := 0) (A := ev m_L_law 2737 [some (eR 0), some (eR 1), some (eR 70), some (eR 81), some (eI i), some (eI t), some (eI b3)] [] (V3, d2)) (B := ev m_L_law 2735 [some (eR 0), some (eR 1), some (eR 70), some (eR 81), some (eI i), some (eI t), some (eI b3)] [] (V3, d2)) rfl (by rw [t2 ht0, hb3 ht0]; exact wrcmp) (show wr 0 = 0 by decide) rfl hR9) ?_
    refine rOf (fun R9 hR9 => xSeg (N := 1) (r := ev m_L_law 3064 [some (eR 0), some (eR 1), some (eR 70), some (eR 81), some (eI i), some (eI t), some (eI b3)] [] (V3, d2)) rfl hR9) ?_
    refine rOf (fun R9 hR9 => xTk 5 (by rfl) rfl hR9) ?_
    exact hK V3 d2 ⟨a2, x2, t, ot2, C3, M3, h03, h813⟩ dl2
  · obtain ⟨V2, ot2, d2, q2, C2, o2, t2, fr2, dl2⟩ := hq V d ot C h81
    have h02 := (fr2.2 0 (by omega)).trans h0
    have h702 := (fr2.2 70 (by omega)).trans h70
    obtain ⟨P2, h12⟩ := CI_1 C2
    refine rOf (fun R9 hR9 => xCall (N := 3) (M2 := m_L_law) (pc2 := 2698) (ls2 := [some (eR 0), some (eR 1), some (eR 70), some (eR 81), some (eI i)]) (st2 := []) (y := m_L_step) (as := [some (eR 1), some (eR 81)]) (w2 := (V, d)) rfl q2 hR9) ?_
    obtain ⟨V3, b3, q3, M3, hb3, fm3⟩ := kmV (d := d2) hn (MI_fr (fun k hk => fr2.2 k (by omega)) M) rfl
    have h03 := (fm3.2 0 (by omega)).trans h02
    have h13 := (fm3.2 1 (by omega)).trans h12
    have h813 := (fm3.2 81 (by omega)).trans o2
    obtain ⟨P3, h703⟩ := MI_70 M3
    have C3 := CI_fr (Nat.le_of_eq fm3.1.symm) (fun k hk => fm3.2 k (by omega)) C2
    refine rOf (fun R9 hR9 => xCallA1 (N := 3) (M2 := m_L_law) (pc2 := 2704) (y := m_M_step) (n := 1) (ls2 := [some (eR 0), some (eR 1), some (eR 70), some (eR 81), some (eI i), some (eI t)]) (st2 := []) (st9 := [eR 70]) (V := V2) (d := d2) (r := 70) (bs := []) rfl rfl h702 rfl q3 hR9) ?_
    refine rOf (fun R9 hR9 => xCallA1 (N := 3) (M2 := m_L_law) (pc2 := 2710) (y := m_M_thrown) (n := 1) (ls2 := [some (eR 0), some (eR 1), some (eR 70), some (eR 81), some (eI i), some (eI t), some (eI b3)]) (st2 := []) (st9 := [eR 70]) (V := V3) (d := d2) (r := 70) (bs := []) rfl rfl h703 rfl (thrV M3) hR9) ?_
    refine rOf (fun R9 hR9 => xEqT (N := 2) (x := t) (y := t) (A := ev m_L_law 2720 [some (eR 0), some (eR 1), some (eR 70), some (eR 81), some (eI i), some (eI t), some (eI b3)] [] (V3, d2)) (B := ev m_L_law 2718 [some (eR 0), some (eR 1), some (eR 70), some (eR 81), some (eI i), some (eI t), some (eI b3)] [] (V3, d2)) rfl rfl rfl rfl hR9) ?_
    refine rOf (fun R9 hR9 => xEqF (N := 2) (x := t) (y := 0) (A := ev m_L_law 2725 [some (eR 0), some (eR 1), some (eR 70), some (eR 81), some (eI i), some (eI t), some (eI b3)] [] (V3, d2)) (B := ev m_L_law 2737 [some (eR 0), some (eR 1), some (eR 70), some (eR 81), some (eI i), some (eI t), some (eI b3)] [] (V3, d2)) rfl (wr_id (by omega) (by omega)) (show wr 0 = 0 by decide) (by omega) hR9) ?_
    refine rOf (fun R9 hR9 => xSeg (N := 1) (r := ev m_L_law 3064 [some (eR 0), some (eR 1), some (eR 70), some (eR 81), some (eI i), some (eI t), some (eI b3)] [] (V3, d2)) rfl hR9) ?_
    refine rOf (fun R9 hR9 => xTk 5 (by rfl) rfl hR9) ?_
    exact hK V3 d2 ⟨a2, x2, t, ot2, C3, M3, h03, h813⟩ dl2
theorem k_solve {V : List eC} {d : Nat × Nat} {L j : Nat} {f : Nat → Int} {i : Int} {Q : (Option eV ⊕ Nat) × eW → Prop} (hi : i = (j : Int)) (hj : j + 6 ≤ L) (hL : L ≤ 3072) (hr : ∀ k, -2147483648 ≤ f k ∧ f k < 2147483648) (h : LI V L f) (hK : ∀ V' d', LI V' L f → dl d d' → Rs (ev m_L_law 3064 [some (eR 0), some (eR 1), some (eR 70), some (eR 81), some (eI i)] [] (V', d')) Q) : Rs (ev m_L_law 2740 [some (eR 0), some (eR 1), some (eR 70), some (eR 81), some (eI i)] [] (V, d)) Q := by
  obtain ⟨a, x, t0, ot, C, M, h0, h81⟩ := h
  obtain ⟨P1, h1⟩ := CI_1 C
  obtain ⟨P70, h70⟩ := MI_70 M
  have hI : iA a := CI_I C
  obtain ⟨a2, x2, t, v, ht, hq, hn⟩ := u_solve (a := a) (X := x) (hr (j + 1))
  by_cases ht0 : t = 0
  · refine rOf (fun R9 hR9 => xLdV (N := 6) (M2 := m_L_law) (pc2 := 2746) (r := 0) (ls2 := [some (eR 0), some (eR 1), some (eR 70), some (eR 81), some (eI i)]) (st2 := [eR 1]) (V := V) (d := d) (i := i + 1) (k := j + 1) (ok := eOkI) (mk := fun x => .inl x) rfl h0 rfl (wr_nat (by omega) (by omega)) (by omega) hR9) ?_
    obtain ⟨V2, ot2, d2, q2, C2, o2, t2, fr2, dl2⟩ := hq V d ot C h81
    have h02 := (fr2.2 0 (by omega)).trans h0
    have h702 := (fr2.2 70 (by omega)).trans h70
    obtain ⟨P2, h12⟩ := CI_1 C2
    refine rOf (fun R9 hR9 => xCall (N := 2) (M2 := m_L_law) (pc2 := 2748) (ls2 := [some (eR 0), some (eR 1), some (eR 70), some (eR 81), some (eI i)]) (st2 := []) (y := m_L_solve) (as := [some (eR 1), some (eI (f (j + 1))), some (eR 81)]) (w2 := (V, d)) rfl q2 hR9) ?_
    refine rOf (fun R9 hR9 => xLdV (N := 7) (M2 := m_L_law) (pc2 := 2759) (r := 0) (ls2 := [some (eR 0), some (eR 1), some (eR 70), some (eR 81), some (eI i), some (eI t)]) (st2 := [eR 70]) (V := V2) (d := d2) (i := i + 1) (k := j + 1) (ok := eOkI) (mk := fun x => .inl x) rfl h02 rfl (wr_nat (by omega) (by omega)) (by omega) hR9) ?_
    obtain ⟨V3, b3, q3, M3, hb3, fm3⟩ := kmV (d := d2) hn (MI_fr (fun k hk => fr2.2 k (by omega)) M) rfl
    have h03 := (fm3.2 0 (by omega)).trans h02
    have h13 := (fm3.2 1 (by omega)).trans h12
    have h813 := (fm3.2 81 (by omega)).trans o2
    obtain ⟨P3, h703⟩ := MI_70 M3
    have C3 := CI_fr (Nat.le_of_eq fm3.1.symm) (fun k hk => fm3.2 k (by omega)) C2
    refine rOf (fun R9 hR9 => xCallA1 (N := 1) (M2 := m_L_law) (pc2 := 2760) (y := m_M_solve) (n := 2) (ls2 := [some (eR 0), some (eR 1), some (eR 70), some (eR 81), some (eI i), some (eI t)]) (st2 := []) (st9 := [eI (f (j + 1)), eR 70]) (V := V2) (d := d2) (r := 70) (bs := [eI (f (j + 1))]) rfl rfl h702 rfl q3 hR9) ?_
    refine rOf (fun R9 hR9 => xCallA1 (N := 3) (M2 := m_L_law) (pc2 := 2766) (y := m_M_thrown) (n := 1) (ls2 := [some (eR 0), some (eR 1), some (eR 70), some (eR 81), some (eI i), some (eI t), some (eI b3)]) (st2 := []) (st9 := [eR 70]) (V := V3) (d := d2) (r := 70) (bs := []) rfl rfl h703 rfl (thrV M3) hR9) ?_
    refine rOf (fun R9 hR9 => xEqT (N := 2) (x := t) (y := t) (A := ev m_L_law 2776 [some (eR 0), some (eR 1), some (eR 70), some (eR 81), some (eI i), some (eI t), some (eI b3)] [] (V3, d2)) (B := ev m_L_law 2774 [some (eR 0), some (eR 1), some (eR 70), some (eR 81), some (eI i), some (eI t), some (eI b3)] [] (V3, d2)) rfl rfl rfl rfl hR9) ?_
    refine rOf (fun R9 hR9 => xEqT (N := 2) (x := t) (y := 0) (A := ev m_L_law 2781 [some (eR 0), some (eR 1), some (eR 70), some (eR 81), some (eI i), some (eI t), some (eI b3)] [] (V3, d2)) (B := ev m_L_law 2793 [some (eR 0), some (eR 1), some (eR 70), some (eR 81), some (eI i), some (eI t), some (eI b3)] [] (V3, d2)) rfl (wr_id (by omega) (by omega)) (show wr 0 = 0 by decide) (by omega) hR9) ?_
    refine rOf (fun R9 hR9 => xLdV (N := 3) (M2 := m_L_law) (pc2 := 2783) (r := 81) (ls2 := [some (eR 0), some (eR 1), some (eR 70), some (eR 81), some (eI i), some (eI t), some (eI b3)]) (st2 := []) (V := V3) (d := d2) (i := 0) (k := 0) (ok := eOkJ) (mk := fun x => .inr (.inr (.inl x))) rfl h813 rfl (show wr 0 = ((0 : Nat) : Int) by decide) (by omega) hR9) ?_
    refine rOf (fun R9 hR9 => xEqT (N := 4) (x := bLcmp (ot2 0) (wr b3)) (y := 0) (A := ev m_L_law 2793 [some (eR 0), some (eR 1), some (eR 70), some (eR 81), some (eI i), some (eI t), some (eI b3)] [] (V3, d2)) (B := ev m_L_law 2791 [some (eR 0), some (eR 1), some (eR 70), some (eR 81), some (eI i), some (eI t), some (eI b3)] [] (V3, d2)) rfl (by rw [t2 ht0, hb3 ht0]; exact wrcmp) (show wr 0 = 0 by decide) rfl hR9) ?_
    refine rOf (fun R9 hR9 => xSeg (N := 1) (r := ev m_L_law 3064 [some (eR 0), some (eR 1), some (eR 70), some (eR 81), some (eI i), some (eI t), some (eI b3)] [] (V3, d2)) rfl hR9) ?_
    refine rOf (fun R9 hR9 => xTk 5 (by rfl) rfl hR9) ?_
    exact hK V3 d2 ⟨a2, x2, t, ot2, C3, M3, h03, h813⟩ dl2
  · refine rOf (fun R9 hR9 => xLdV (N := 6) (M2 := m_L_law) (pc2 := 2746) (r := 0) (ls2 := [some (eR 0), some (eR 1), some (eR 70), some (eR 81), some (eI i)]) (st2 := [eR 1]) (V := V) (d := d) (i := i + 1) (k := j + 1) (ok := eOkI) (mk := fun x => .inl x) rfl h0 rfl (wr_nat (by omega) (by omega)) (by omega) hR9) ?_
    obtain ⟨V2, ot2, d2, q2, C2, o2, t2, fr2, dl2⟩ := hq V d ot C h81
    have h02 := (fr2.2 0 (by omega)).trans h0
    have h702 := (fr2.2 70 (by omega)).trans h70
    obtain ⟨P2, h12⟩ := CI_1 C2
    refine rOf (fun R9 hR9 => xCall (N := 2) (M2 := m_L_law) (pc2 := 2748) (ls2 := [some (eR 0), some (eR 1), some (eR 70), some (eR 81), some (eI i)]) (st2 := []) (y := m_L_solve) (as := [some (eR 1), some (eI (f (j + 1))), some (eR 81)]) (w2 := (V, d)) rfl q2 hR9) ?_
    refine rOf (fun R9 hR9 => xLdV (N := 7) (M2 := m_L_law) (pc2 := 2759) (r := 0) (ls2 := [some (eR 0), some (eR 1), some (eR 70), some (eR 81), some (eI i), some (eI t)]) (st2 := [eR 70]) (V := V2) (d := d2) (i := i + 1) (k := j + 1) (ok := eOkI) (mk := fun x => .inl x) rfl h02 rfl (wr_nat (by omega) (by omega)) (by omega) hR9) ?_
    obtain ⟨V3, b3, q3, M3, hb3, fm3⟩ := kmV (d := d2) hn (MI_fr (fun k hk => fr2.2 k (by omega)) M) rfl
    have h03 := (fm3.2 0 (by omega)).trans h02
    have h13 := (fm3.2 1 (by omega)).trans h12
    have h813 := (fm3.2 81 (by omega)).trans o2
    obtain ⟨P3, h703⟩ := MI_70 M3
    have C3 := CI_fr (Nat.le_of_eq fm3.1.symm) (fun k hk => fm3.2 k (by omega)) C2
    refine rOf (fun R9 hR9 => xCallA1 (N := 1) (M2 := m_L_law) (pc2 := 2760) (y := m_M_solve) (n := 2) (ls2 := [some (eR 0), some (eR 1), some (eR 70), some (eR 81), some (eI i), some (eI t)]) (st2 := []) (st9 := [eI (f (j + 1)), eR 70]) (V := V2) (d := d2) (r := 70) (bs := [eI (f (j + 1))]) rfl rfl h702 rfl q3 hR9) ?_
    refine rOf (fun R9 hR9 => xCallA1 (N := 3) (M2 := m_L_law) (pc2 := 2766) (y := m_M_thrown) (n := 1) (ls2 := [some (eR 0), some (eR 1), some (eR 70), some (eR 81), some (eI i), some (eI t), some (eI b3)]) (st2 := []) (st9 := [eR 70]) (V := V3) (d := d2) (r := 70) (bs := []) rfl rfl h703 rfl (thrV M3) hR9) ?_
    refine rOf (fun R9 hR9 => xEqT (N := 2) (x := t) (y := t) (A := ev m_L_law 2776 [some (eR 0), some (eR 1), some (eR 70), some (eR 81), some (eI i), some (eI t), some (eI b3)] [] (V3, d2)) (B := ev m_L_law 2774 [some (eR 0), some (eR 1), some (eR 70), some (eR 81), some (eI i), some (eI t), some (eI b3)] [] (V3, d2)) rfl rfl rfl rfl hR9) ?_
    refine rOf (fun R9 hR9 => xEqF (N := 2) (x := t) (y := 0) (A := ev m_L_law 2781 [some (eR 0), some (eR 1), some (eR 70), some (eR 81), some (eI i), some (eI t), some (eI b3)] [] (V3, d2)) (B := ev m_L_law 2793 [some (eR 0), some (eR 1), some (eR 70), some (eR 81), some (eI i), some (eI t), some (eI b3)] [] (V3, d2)) rfl (wr_id (by omega) (by omega)) (show wr 0 = 0 by decide) (by omega) hR9) ?_
    refine rOf (fun R9 hR9 => xSeg (N := 1) (r := ev m_L_law 3064 [some (eR 0), some (eR 1), some (eR 70), some (eR 81), some (eI i), some (eI t), some (eI b3)] [] (V3, d2)) rfl hR9) ?_
    refine rOf (fun R9 hR9 => xTk 5 (by rfl) rfl hR9) ?_
    exact hK V3 d2 ⟨a2, x2, t, ot2, C3, M3, h03, h813⟩ dl2
theorem k_undo {V : List eC} {d : Nat × Nat} {L j : Nat} {f : Nat → Int} {i : Int} {Q : (Option eV ⊕ Nat) × eW → Prop} (hi : i = (j : Int)) (hj : j + 6 ≤ L) (hL : L ≤ 3072) (hr : ∀ k, -2147483648 ≤ f k ∧ f k < 2147483648) (h : LI V L f) (hK : ∀ V' d', LI V' L f → dl d d' → Rs (ev m_L_law 3064 [some (eR 0), some (eR 1), some (eR 70), some (eR 81), some (eI i)] [] (V', d')) Q) : Rs (ev m_L_law 3020 [some (eR 0), some (eR 1), some (eR 70), some (eR 81), some (eI i)] [] (V, d)) Q := by
  obtain ⟨a, x, t0, ot, C, M, h0, h81⟩ := h
  obtain ⟨P1, h1⟩ := CI_1 C
  obtain ⟨P70, h70⟩ := MI_70 M
  have hI : iA a := CI_I C
  obtain ⟨a2, x2, t, v, ht, hq, hn⟩ := u_undo (a := a) (X := x) 
  by_cases ht0 : t = 0
  · obtain ⟨V2, ot2, d2, q2, C2, o2, t2, fr2, dl2⟩ := hq V d ot C h81
    have h02 := (fr2.2 0 (by omega)).trans h0
    have h702 := (fr2.2 70 (by omega)).trans h70
    obtain ⟨P2, h12⟩ := CI_1 C2
    refine rOf (fun R9 hR9 => xCall (N := 3) (M2 := m_L_law) (pc2 := 3022) (ls2 := [some (eR 0), some (eR 1), some (eR 70), some (eR 81), some (eI i)]) (st2 := []) (y := m_L_undo) (as := [some (eR 1), some (eR 81)]) (w2 := (V, d)) rfl q2 hR9) ?_
    obtain ⟨V3, b3, q3, M3, hb3, fm3⟩ := kmV (d := d2) hn (MI_fr (fun k hk => fr2.2 k (by omega)) M) rfl
    have h03 := (fm3.2 0 (by omega)).trans h02
    have h13 := (fm3.2 1 (by omega)).trans h12
    have h813 := (fm3.2 81 (by omega)).trans o2
    obtain ⟨P3, h703⟩ := MI_70 M3
    have C3 := CI_fr (Nat.le_of_eq fm3.1.symm) (fun k hk => fm3.2 k (by omega)) C2
    refine rOf (fun R9 hR9 => xCallA1 (N := 3) (M2 := m_L_law) (pc2 := 3028) (y := m_M_undo) (n := 1) (ls2 := [some (eR 0), some (eR 1), some (eR 70), some (eR 81), some (eI i), some (eI t)]) (st2 := []) (st9 := [eR 70]) (V := V2) (d := d2) (r := 70) (bs := []) rfl rfl h702 rfl q3 hR9) ?_
    refine rOf (fun R9 hR9 => xCallA1 (N := 3) (M2 := m_L_law) (pc2 := 3034) (y := m_M_thrown) (n := 1) (ls2 := [some (eR 0), some (eR 1), some (eR 70), some (eR 81), some (eI i), some (eI t), some (eI b3)]) (st2 := []) (st9 := [eR 70]) (V := V3) (d := d2) (r := 70) (bs := []) rfl rfl h703 rfl (thrV M3) hR9) ?_
    refine rOf (fun R9 hR9 => xEqT (N := 2) (x := t) (y := t) (A := ev m_L_law 3044 [some (eR 0), some (eR 1), some (eR 70), some (eR 81), some (eI i), some (eI t), some (eI b3)] [] (V3, d2)) (B := ev m_L_law 3042 [some (eR 0), some (eR 1), some (eR 70), some (eR 81), some (eI i), some (eI t), some (eI b3)] [] (V3, d2)) rfl rfl rfl rfl hR9) ?_
    refine rOf (fun R9 hR9 => xEqT (N := 2) (x := t) (y := 0) (A := ev m_L_law 3049 [some (eR 0), some (eR 1), some (eR 70), some (eR 81), some (eI i), some (eI t), some (eI b3)] [] (V3, d2)) (B := ev m_L_law 3061 [some (eR 0), some (eR 1), some (eR 70), some (eR 81), some (eI i), some (eI t), some (eI b3)] [] (V3, d2)) rfl (wr_id (by omega) (by omega)) (show wr 0 = 0 by decide) (by omega) hR9) ?_
    refine rOf (fun R9 hR9 => xLdV (N := 3) (M2 := m_L_law) (pc2 := 3051) (r := 81) (ls2 := [some (eR 0), some (eR 1), some (eR 70), some (eR 81), some (eI i), some (eI t), some (eI b3)]) (st2 := []) (V := V3) (d := d2) (i := 0) (k := 0) (ok := eOkJ) (mk := fun x => .inr (.inr (.inl x))) rfl h813 rfl (show wr 0 = ((0 : Nat) : Int) by decide) (by omega) hR9) ?_
    refine rOf (fun R9 hR9 => xEqT (N := 4) (x := bLcmp (ot2 0) (wr b3)) (y := 0) (A := ev m_L_law 3061 [some (eR 0), some (eR 1), some (eR 70), some (eR 81), some (eI i), some (eI t), some (eI b3)] [] (V3, d2)) (B := ev m_L_law 3059 [some (eR 0), some (eR 1), some (eR 70), some (eR 81), some (eI i), some (eI t), some (eI b3)] [] (V3, d2)) rfl (by rw [t2 ht0, hb3 ht0]; exact wrcmp) (show wr 0 = 0 by decide) rfl hR9) ?_
    refine rOf (fun R9 hR9 => xSeg (N := 1) (r := ev m_L_law 3064 [some (eR 0), some (eR 1), some (eR 70), some (eR 81), some (eI i), some (eI t), some (eI b3)] [] (V3, d2)) rfl hR9) ?_
    refine rOf (fun R9 hR9 => xTk 5 (by rfl) rfl hR9) ?_
    exact hK V3 d2 ⟨a2, x2, t, ot2, C3, M3, h03, h813⟩ dl2
  · obtain ⟨V2, ot2, d2, q2, C2, o2, t2, fr2, dl2⟩ := hq V d ot C h81
    have h02 := (fr2.2 0 (by omega)).trans h0
    have h702 := (fr2.2 70 (by omega)).trans h70
    obtain ⟨P2, h12⟩ := CI_1 C2
    refine rOf (fun R9 hR9 => xCall (N := 3) (M2 := m_L_law) (pc2 := 3022) (ls2 := [some (eR 0), some (eR 1), some (eR 70), some (eR 81), some (eI i)]) (st2 := []) (y := m_L_undo) (as := [some (eR 1), some (eR 81)]) (w2 := (V, d)) rfl q2 hR9) ?_
    obtain ⟨V3, b3, q3, M3, hb3, fm3⟩ := kmV (d := d2) hn (MI_fr (fun k hk => fr2.2 k (by omega)) M) rfl
    have h03 := (fm3.2 0 (by omega)).trans h02
    have h13 := (fm3.2 1 (by omega)).trans h12
    have h813 := (fm3.2 81 (by omega)).trans o2
    obtain ⟨P3, h703⟩ := MI_70 M3
    have C3 := CI_fr (Nat.le_of_eq fm3.1.symm) (fun k hk => fm3.2 k (by omega)) C2
    refine rOf (fun R9 hR9 => xCallA1 (N := 3) (M2 := m_L_law) (pc2 := 3028) (y := m_M_undo) (n := 1) (ls2 := [some (eR 0), some (eR 1), some (eR 70), some (eR 81), some (eI i), some (eI t)]) (st2 := []) (st9 := [eR 70]) (V := V2) (d := d2) (r := 70) (bs := []) rfl rfl h702 rfl q3 hR9) ?_
    refine rOf (fun R9 hR9 => xCallA1 (N := 3) (M2 := m_L_law) (pc2 := 3034) (y := m_M_thrown) (n := 1) (ls2 := [some (eR 0), some (eR 1), some (eR 70), some (eR 81), some (eI i), some (eI t), some (eI b3)]) (st2 := []) (st9 := [eR 70]) (V := V3) (d := d2) (r := 70) (bs := []) rfl rfl h703 rfl (thrV M3) hR9) ?_
    refine rOf (fun R9 hR9 => xEqT (N := 2) (x := t) (y := t) (A := ev m_L_law 3044 [some (eR 0), some (eR 1), some (eR 70), some (eR 81), some (eI i), some (eI t), some (eI b3)] [] (V3, d2)) (B := ev m_L_law 3042 [some (eR 0), some (eR 1), some (eR 70), some (eR 81), some (eI i), some (eI t), some (eI b3)] [] (V3, d2)) rfl rfl rfl rfl hR9) ?_
    refine rOf (fun R9 hR9 => xEqF (N := 2) (x := t) (y := 0) (A := ev m_L_law 3049 [some (eR 0), some (eR 1), some (eR 70), some (eR 81), some (eI i), some (eI t), some (eI b3)] [] (V3, d2)) (B := ev m_L_law 3061 [some (eR 0), some (eR 1), some (eR 70), some (eR 81), some (eI i), some (eI t), some (eI b3)] [] (V3, d2)) rfl (wr_id (by omega) (by omega)) (show wr 0 = 0 by decide) (by omega) hR9) ?_
    refine rOf (fun R9 hR9 => xSeg (N := 1) (r := ev m_L_law 3064 [some (eR 0), some (eR 1), some (eR 70), some (eR 81), some (eI i), some (eI t), some (eI b3)] [] (V3, d2)) rfl hR9) ?_
    refine rOf (fun R9 hR9 => xTk 5 (by rfl) rfl hR9) ?_
    exact hK V3 d2 ⟨a2, x2, t, ot2, C3, M3, h03, h813⟩ dl2
theorem k_restore {V : List eC} {d : Nat × Nat} {L j : Nat} {f : Nat → Int} {i : Int} {Q : (Option eV ⊕ Nat) × eW → Prop} (hi : i = (j : Int)) (hj : j + 6 ≤ L) (hL : L ≤ 3072) (hr : ∀ k, -2147483648 ≤ f k ∧ f k < 2147483648) (h : LI V L f) (hK : ∀ V' d', LI V' L f → dl d d' → Rs (ev m_L_law 3064 [some (eR 0), some (eR 1), some (eR 70), some (eR 81), some (eI i)] [] (V', d')) Q) : Rs (ev m_L_law 2964 [some (eR 0), some (eR 1), some (eR 70), some (eR 81), some (eI i)] [] (V, d)) Q := by
  obtain ⟨a, x, t0, ot, C, M, h0, h81⟩ := h
  obtain ⟨P1, h1⟩ := CI_1 C
  obtain ⟨P70, h70⟩ := MI_70 M
  have hI : iA a := CI_I C
  obtain ⟨a2, x2, t, v, ht, hq, hn⟩ := u_restore (a := a) (X := x) (hr (j + 1))
  by_cases ht0 : t = 0
  · refine rOf (fun R9 hR9 => xLdV (N := 6) (M2 := m_L_law) (pc2 := 2970) (r := 0) (ls2 := [some (eR 0), some (eR 1), some (eR 70), some (eR 81), some (eI i)]) (st2 := [eR 1]) (V := V) (d := d) (i := i + 1) (k := j + 1) (ok := eOkI) (mk := fun x => .inl x) rfl h0 rfl (wr_nat (by omega) (by omega)) (by omega) hR9) ?_
    obtain ⟨V2, ot2, d2, q2, C2, o2, t2, fr2, dl2⟩ := hq V d ot C h81
    have h02 := (fr2.2 0 (by omega)).trans h0
    have h702 := (fr2.2 70 (by omega)).trans h70
    obtain ⟨P2, h12⟩ := CI_1 C2
    refine rOf (fun R9 hR9 => xCall (N := 2) (M2 := m_L_law) (pc2 := 2972) (ls2 := [some (eR 0), some (eR 1), some (eR 70), some (eR 81), some (eI i)]) (st2 := []) (y := m_L_restore) (as := [some (eR 1), some (eI (f (j + 1))), some (eR 81)]) (w2 := (V, d)) rfl q2 hR9) ?_
    refine rOf (fun R9 hR9 => xLdV (N := 7) (M2 := m_L_law) (pc2 := 2983) (r := 0) (ls2 := [some (eR 0), some (eR 1), some (eR 70), some (eR 81), some (eI i), some (eI t)]) (st2 := [eR 70]) (V := V2) (d := d2) (i := i + 1) (k := j + 1) (ok := eOkI) (mk := fun x => .inl x) rfl h02 rfl (wr_nat (by omega) (by omega)) (by omega) hR9) ?_
    obtain ⟨V3, b3, q3, M3, hb3, fm3⟩ := kmV (d := d2) hn (MI_fr (fun k hk => fr2.2 k (by omega)) M) rfl
    have h03 := (fm3.2 0 (by omega)).trans h02
    have h13 := (fm3.2 1 (by omega)).trans h12
    have h813 := (fm3.2 81 (by omega)).trans o2
    obtain ⟨P3, h703⟩ := MI_70 M3
    have C3 := CI_fr (Nat.le_of_eq fm3.1.symm) (fun k hk => fm3.2 k (by omega)) C2
    refine rOf (fun R9 hR9 => xCallA1 (N := 1) (M2 := m_L_law) (pc2 := 2984) (y := m_M_restore) (n := 2) (ls2 := [some (eR 0), some (eR 1), some (eR 70), some (eR 81), some (eI i), some (eI t)]) (st2 := []) (st9 := [eI (f (j + 1)), eR 70]) (V := V2) (d := d2) (r := 70) (bs := [eI (f (j + 1))]) rfl rfl h702 rfl q3 hR9) ?_
    refine rOf (fun R9 hR9 => xCallA1 (N := 3) (M2 := m_L_law) (pc2 := 2990) (y := m_M_thrown) (n := 1) (ls2 := [some (eR 0), some (eR 1), some (eR 70), some (eR 81), some (eI i), some (eI t), some (eI b3)]) (st2 := []) (st9 := [eR 70]) (V := V3) (d := d2) (r := 70) (bs := []) rfl rfl h703 rfl (thrV M3) hR9) ?_
    refine rOf (fun R9 hR9 => xEqT (N := 2) (x := t) (y := t) (A := ev m_L_law 3000 [some (eR 0), some (eR 1), some (eR 70), some (eR 81), some (eI i), some (eI t), some (eI b3)] [] (V3, d2)) (B := ev m_L_law 2998 [some (eR 0), some (eR 1), some (eR 70), some (eR 81), some (eI i), some (eI t), some (eI b3)] [] (V3, d2)) rfl rfl rfl rfl hR9) ?_
    refine rOf (fun R9 hR9 => xEqT (N := 2) (x := t) (y := 0) (A := ev m_L_law 3005 [some (eR 0), some (eR 1), some (eR 70), some (eR 81), some (eI i), some (eI t), some (eI b3)] [] (V3, d2)) (B := ev m_L_law 3017 [some (eR 0), some (eR 1), some (eR 70), some (eR 81), some (eI i), some (eI t), some (eI b3)] [] (V3, d2)) rfl (wr_id (by omega) (by omega)) (show wr 0 = 0 by decide) (by omega) hR9) ?_
    refine rOf (fun R9 hR9 => xLdV (N := 3) (M2 := m_L_law) (pc2 := 3007) (r := 81) (ls2 := [some (eR 0), some (eR 1), some (eR 70), some (eR 81), some (eI i), some (eI t), some (eI b3)]) (st2 := []) (V := V3) (d := d2) (i := 0) (k := 0) (ok := eOkJ) (mk := fun x => .inr (.inr (.inl x))) rfl h813 rfl (show wr 0 = ((0 : Nat) : Int) by decide) (by omega) hR9) ?_
    refine rOf (fun R9 hR9 => xEqT (N := 4) (x := bLcmp (ot2 0) (wr b3)) (y := 0) (A := ev m_L_law 3017 [some (eR 0), some (eR 1), some (eR 70), some (eR 81), some (eI i), some (eI t), some (eI b3)] [] (V3, d2)) (B := ev m_L_law 3015 [some (eR 0), some (eR 1), some (eR 70), some (eR 81), some (eI i), some (eI t), some (eI b3)] [] (V3, d2)) rfl (by rw [t2 ht0, hb3 ht0]; exact wrcmp) (show wr 0 = 0 by decide) rfl hR9) ?_
    refine rOf (fun R9 hR9 => xSeg (N := 1) (r := ev m_L_law 3064 [some (eR 0), some (eR 1), some (eR 70), some (eR 81), some (eI i), some (eI t), some (eI b3)] [] (V3, d2)) rfl hR9) ?_
    refine rOf (fun R9 hR9 => xTk 5 (by rfl) rfl hR9) ?_
    exact hK V3 d2 ⟨a2, x2, t, ot2, C3, M3, h03, h813⟩ dl2
  · refine rOf (fun R9 hR9 => xLdV (N := 6) (M2 := m_L_law) (pc2 := 2970) (r := 0) (ls2 := [some (eR 0), some (eR 1), some (eR 70), some (eR 81), some (eI i)]) (st2 := [eR 1]) (V := V) (d := d) (i := i + 1) (k := j + 1) (ok := eOkI) (mk := fun x => .inl x) rfl h0 rfl (wr_nat (by omega) (by omega)) (by omega) hR9) ?_
    obtain ⟨V2, ot2, d2, q2, C2, o2, t2, fr2, dl2⟩ := hq V d ot C h81
    have h02 := (fr2.2 0 (by omega)).trans h0
    have h702 := (fr2.2 70 (by omega)).trans h70
    obtain ⟨P2, h12⟩ := CI_1 C2
    refine rOf (fun R9 hR9 => xCall (N := 2) (M2 := m_L_law) (pc2 := 2972) (ls2 := [some (eR 0), some (eR 1), some (eR 70), some (eR 81), some (eI i)]) (st2 := []) (y := m_L_restore) (as := [some (eR 1), some (eI (f (j + 1))), some (eR 81)]) (w2 := (V, d)) rfl q2 hR9) ?_
    refine rOf (fun R9 hR9 => xLdV (N := 7) (M2 := m_L_law) (pc2 := 2983) (r := 0) (ls2 := [some (eR 0), some (eR 1), some (eR 70), some (eR 81), some (eI i), some (eI t)]) (st2 := [eR 70]) (V := V2) (d := d2) (i := i + 1) (k := j + 1) (ok := eOkI) (mk := fun x => .inl x) rfl h02 rfl (wr_nat (by omega) (by omega)) (by omega) hR9) ?_
    obtain ⟨V3, b3, q3, M3, hb3, fm3⟩ := kmV (d := d2) hn (MI_fr (fun k hk => fr2.2 k (by omega)) M) rfl
    have h03 := (fm3.2 0 (by omega)).trans h02
    have h13 := (fm3.2 1 (by omega)).trans h12
    have h813 := (fm3.2 81 (by omega)).trans o2
    obtain ⟨P3, h703⟩ := MI_70 M3
    have C3 := CI_fr (Nat.le_of_eq fm3.1.symm) (fun k hk => fm3.2 k (by omega)) C2
    refine rOf (fun R9 hR9 => xCallA1 (N := 1) (M2 := m_L_law) (pc2 := 2984) (y := m_M_restore) (n := 2) (ls2 := [some (eR 0), some (eR 1), some (eR 70), some (eR 81), some (eI i), some (eI t)]) (st2 := []) (st9 := [eI (f (j + 1)), eR 70]) (V := V2) (d := d2) (r := 70) (bs := [eI (f (j + 1))]) rfl rfl h702 rfl q3 hR9) ?_
    refine rOf (fun R9 hR9 => xCallA1 (N := 3) (M2 := m_L_law) (pc2 := 2990) (y := m_M_thrown) (n := 1) (ls2 := [some (eR 0), some (eR 1), some (eR 70), some (eR 81), some (eI i), some (eI t), some (eI b3)]) (st2 := []) (st9 := [eR 70]) (V := V3) (d := d2) (r := 70) (bs := []) rfl rfl h703 rfl (thrV M3) hR9) ?_
    refine rOf (fun R9 hR9 => xEqT (N := 2) (x := t) (y := t) (A := ev m_L_law 3000 [some (eR 0), some (eR 1), some (eR 70), some (eR 81), some (eI i), some (eI t), some (eI b3)] [] (V3, d2)) (B := ev m_L_law 2998 [some (eR 0), some (eR 1), some (eR 70), some (eR 81), some (eI i), some (eI t), some (eI b3)] [] (V3, d2)) rfl rfl rfl rfl hR9) ?_
    refine rOf (fun R9 hR9 => xEqF (N := 2) (x := t) (y := 0) (A := ev m_L_law 3005 [some (eR 0), some (eR 1), some (eR 70), some (eR 81), some (eI i), some (eI t), some (eI b3)] [] (V3, d2)) (B := ev m_L_law 3017 [some (eR 0), some (eR 1), some (eR 70), some (eR 81), some (eI i), some (eI t), some (eI b3)] [] (V3, d2)) rfl (wr_id (by omega) (by omega)) (show wr 0 = 0 by decide) (by omega) hR9) ?_
    refine rOf (fun R9 hR9 => xSeg (N := 1) (r := ev m_L_law 3064 [some (eR 0), some (eR 1), some (eR 70), some (eR 81), some (eI i), some (eI t), some (eI b3)] [] (V3, d2)) rfl hR9) ?_
    refine rOf (fun R9 hR9 => xTk 5 (by rfl) rfl hR9) ?_
    exact hK V3 d2 ⟨a2, x2, t, ot2, C3, M3, h03, h813⟩ dl2
theorem k_save {V : List eC} {d : Nat × Nat} {L j : Nat} {f : Nat → Int} {i : Int} {Q : (Option eV ⊕ Nat) × eW → Prop} (hi : i = (j : Int)) (hj : j + 6 ≤ L) (hL : L ≤ 3072) (hr : ∀ k, -2147483648 ≤ f k ∧ f k < 2147483648) (h : LI V L f) (hK : ∀ V' d', LI V' L f → dl d d' → Rs (ev m_L_law 3064 [some (eR 0), some (eR 1), some (eR 70), some (eR 81), some (eI i)] [] (V', d')) Q) : Rs (ev m_L_law 2908 [some (eR 0), some (eR 1), some (eR 70), some (eR 81), some (eI i)] [] (V, d)) Q := by
  obtain ⟨a, x, t0, ot, C, M, h0, h81⟩ := h
  obtain ⟨P1, h1⟩ := CI_1 C
  obtain ⟨P70, h70⟩ := MI_70 M
  have hI : iA a := CI_I C
  obtain ⟨a2, x2, t, v, ht, hq, hn⟩ := u_save (a := a) (X := x) (hr (j + 1))
  by_cases ht0 : t = 0
  · refine rOf (fun R9 hR9 => xLdV (N := 6) (M2 := m_L_law) (pc2 := 2914) (r := 0) (ls2 := [some (eR 0), some (eR 1), some (eR 70), some (eR 81), some (eI i)]) (st2 := [eR 1]) (V := V) (d := d) (i := i + 1) (k := j + 1) (ok := eOkI) (mk := fun x => .inl x) rfl h0 rfl (wr_nat (by omega) (by omega)) (by omega) hR9) ?_
    obtain ⟨V2, ot2, d2, q2, C2, o2, t2, fr2, dl2⟩ := hq V d ot C h81
    have h02 := (fr2.2 0 (by omega)).trans h0
    have h702 := (fr2.2 70 (by omega)).trans h70
    obtain ⟨P2, h12⟩ := CI_1 C2
    refine rOf (fun R9 hR9 => xCall (N := 2) (M2 := m_L_law) (pc2 := 2916) (ls2 := [some (eR 0), some (eR 1), some (eR 70), some (eR 81), some (eI i)]) (st2 := []) (y := m_L_save) (as := [some (eR 1), some (eI (f (j + 1))), some (eR 81)]) (w2 := (V, d)) rfl q2 hR9) ?_
    refine rOf (fun R9 hR9 => xLdV (N := 7) (M2 := m_L_law) (pc2 := 2927) (r := 0) (ls2 := [some (eR 0), some (eR 1), some (eR 70), some (eR 81), some (eI i), some (eI t)]) (st2 := [eR 70]) (V := V2) (d := d2) (i := i + 1) (k := j + 1) (ok := eOkI) (mk := fun x => .inl x) rfl h02 rfl (wr_nat (by omega) (by omega)) (by omega) hR9) ?_
    obtain ⟨V3, b3, q3, M3, hb3, fm3⟩ := kmV (d := d2) hn (MI_fr (fun k hk => fr2.2 k (by omega)) M) rfl
    have h03 := (fm3.2 0 (by omega)).trans h02
    have h13 := (fm3.2 1 (by omega)).trans h12
    have h813 := (fm3.2 81 (by omega)).trans o2
    obtain ⟨P3, h703⟩ := MI_70 M3
    have C3 := CI_fr (Nat.le_of_eq fm3.1.symm) (fun k hk => fm3.2 k (by omega)) C2
    refine rOf (fun R9 hR9 => xCallA1 (N := 1) (M2 := m_L_law) (pc2 := 2928) (y := m_M_save) (n := 2) (ls2 := [some (eR 0), some (eR 1), some (eR 70), some (eR 81), some (eI i), some (eI t)]) (st2 := []) (st9 := [eI (f (j + 1)), eR 70]) (V := V2) (d := d2) (r := 70) (bs := [eI (f (j + 1))]) rfl rfl h702 rfl q3 hR9) ?_
    refine rOf (fun R9 hR9 => xCallA1 (N := 3) (M2 := m_L_law) (pc2 := 2934) (y := m_M_thrown) (n := 1) (ls2 := [some (eR 0), some (eR 1), some (eR 70), some (eR 81), some (eI i), some (eI t), some (eI b3)]) (st2 := []) (st9 := [eR 70]) (V := V3) (d := d2) (r := 70) (bs := []) rfl rfl h703 rfl (thrV M3) hR9) ?_
    refine rOf (fun R9 hR9 => xEqT (N := 2) (x := t) (y := t) (A := ev m_L_law 2944 [some (eR 0), some (eR 1), some (eR 70), some (eR 81), some (eI i), some (eI t), some (eI b3)] [] (V3, d2)) (B := ev m_L_law 2942 [some (eR 0), some (eR 1), some (eR 70), some (eR 81), some (eI i), some (eI t), some (eI b3)] [] (V3, d2)) rfl rfl rfl rfl hR9) ?_
    refine rOf (fun R9 hR9 => xEqT (N := 2) (x := t) (y := 0) (A := ev m_L_law 2949 [some (eR 0), some (eR 1), some (eR 70), some (eR 81), some (eI i), some (eI t), some (eI b3)] [] (V3, d2)) (B := ev m_L_law 2961 [some (eR 0), some (eR 1), some (eR 70), some (eR 81), some (eI i), some (eI t), some (eI b3)] [] (V3, d2)) rfl (wr_id (by omega) (by omega)) (show wr 0 = 0 by decide) (by omega) hR9) ?_
    refine rOf (fun R9 hR9 => xLdV (N := 3) (M2 := m_L_law) (pc2 := 2951) (r := 81) (ls2 := [some (eR 0), some (eR 1), some (eR 70), some (eR 81), some (eI i), some (eI t), some (eI b3)]) (st2 := []) (V := V3) (d := d2) (i := 0) (k := 0) (ok := eOkJ) (mk := fun x => .inr (.inr (.inl x))) rfl h813 rfl (show wr 0 = ((0 : Nat) : Int) by decide) (by omega) hR9) ?_
    refine rOf (fun R9 hR9 => xEqT (N := 4) (x := bLcmp (ot2 0) (wr b3)) (y := 0) (A := ev m_L_law 2961 [some (eR 0), some (eR 1), some (eR 70), some (eR 81), some (eI i), some (eI t), some (eI b3)] [] (V3, d2)) (B := ev m_L_law 2959 [some (eR 0), some (eR 1), some (eR 70), some (eR 81), some (eI i), some (eI t), some (eI b3)] [] (V3, d2)) rfl (by rw [t2 ht0, hb3 ht0]; exact wrcmp) (show wr 0 = 0 by decide) rfl hR9) ?_
    refine rOf (fun R9 hR9 => xSeg (N := 1) (r := ev m_L_law 3064 [some (eR 0), some (eR 1), some (eR 70), some (eR 81), some (eI i), some (eI t), some (eI b3)] [] (V3, d2)) rfl hR9) ?_
    refine rOf (fun R9 hR9 => xTk 5 (by rfl) rfl hR9) ?_
    exact hK V3 d2 ⟨a2, x2, t, ot2, C3, M3, h03, h813⟩ dl2
  · refine rOf (fun R9 hR9 => xLdV (N := 6) (M2 := m_L_law) (pc2 := 2914) (r := 0) (ls2 := [some (eR 0), some (eR 1), some (eR 70), some (eR 81), some (eI i)]) (st2 := [eR 1]) (V := V) (d := d) (i := i + 1) (k := j + 1) (ok := eOkI) (mk := fun x => .inl x) rfl h0 rfl (wr_nat (by omega) (by omega)) (by omega) hR9) ?_
    obtain ⟨V2, ot2, d2, q2, C2, o2, t2, fr2, dl2⟩ := hq V d ot C h81
    have h02 := (fr2.2 0 (by omega)).trans h0
    have h702 := (fr2.2 70 (by omega)).trans h70
    obtain ⟨P2, h12⟩ := CI_1 C2
    refine rOf (fun R9 hR9 => xCall (N := 2) (M2 := m_L_law) (pc2 := 2916) (ls2 := [some (eR 0), some (eR 1), some (eR 70), some (eR 81), some (eI i)]) (st2 := []) (y := m_L_save) (as := [some (eR 1), some (eI (f (j + 1))), some (eR 81)]) (w2 := (V, d)) rfl q2 hR9) ?_
    refine rOf (fun R9 hR9 => xLdV (N := 7) (M2 := m_L_law) (pc2 := 2927) (r := 0) (ls2 := [some (eR 0), some (eR 1), some (eR 70), some (eR 81), some (eI i), some (eI t)]) (st2 := [eR 70]) (V := V2) (d := d2) (i := i + 1) (k := j + 1) (ok := eOkI) (mk := fun x => .inl x) rfl h02 rfl (wr_nat (by omega) (by omega)) (by omega) hR9) ?_
    obtain ⟨V3, b3, q3, M3, hb3, fm3⟩ := kmV (d := d2) hn (MI_fr (fun k hk => fr2.2 k (by omega)) M) rfl
    have h03 := (fm3.2 0 (by omega)).trans h02
    have h13 := (fm3.2 1 (by omega)).trans h12
    have h813 := (fm3.2 81 (by omega)).trans o2
    obtain ⟨P3, h703⟩ := MI_70 M3
    have C3 := CI_fr (Nat.le_of_eq fm3.1.symm) (fun k hk => fm3.2 k (by omega)) C2
    refine rOf (fun R9 hR9 => xCallA1 (N := 1) (M2 := m_L_law) (pc2 := 2928) (y := m_M_save) (n := 2) (ls2 := [some (eR 0), some (eR 1), some (eR 70), some (eR 81), some (eI i), some (eI t)]) (st2 := []) (st9 := [eI (f (j + 1)), eR 70]) (V := V2) (d := d2) (r := 70) (bs := [eI (f (j + 1))]) rfl rfl h702 rfl q3 hR9) ?_
    refine rOf (fun R9 hR9 => xCallA1 (N := 3) (M2 := m_L_law) (pc2 := 2934) (y := m_M_thrown) (n := 1) (ls2 := [some (eR 0), some (eR 1), some (eR 70), some (eR 81), some (eI i), some (eI t), some (eI b3)]) (st2 := []) (st9 := [eR 70]) (V := V3) (d := d2) (r := 70) (bs := []) rfl rfl h703 rfl (thrV M3) hR9) ?_
    refine rOf (fun R9 hR9 => xEqT (N := 2) (x := t) (y := t) (A := ev m_L_law 2944 [some (eR 0), some (eR 1), some (eR 70), some (eR 81), some (eI i), some (eI t), some (eI b3)] [] (V3, d2)) (B := ev m_L_law 2942 [some (eR 0), some (eR 1), some (eR 70), some (eR 81), some (eI i), some (eI t), some (eI b3)] [] (V3, d2)) rfl rfl rfl rfl hR9) ?_
    refine rOf (fun R9 hR9 => xEqF (N := 2) (x := t) (y := 0) (A := ev m_L_law 2949 [some (eR 0), some (eR 1), some (eR 70), some (eR 81), some (eI i), some (eI t), some (eI b3)] [] (V3, d2)) (B := ev m_L_law 2961 [some (eR 0), some (eR 1), some (eR 70), some (eR 81), some (eI i), some (eI t), some (eI b3)] [] (V3, d2)) rfl (wr_id (by omega) (by omega)) (show wr 0 = 0 by decide) (by omega) hR9) ?_
    refine rOf (fun R9 hR9 => xSeg (N := 1) (r := ev m_L_law 3064 [some (eR 0), some (eR 1), some (eR 70), some (eR 81), some (eI i), some (eI t), some (eI b3)] [] (V3, d2)) rfl hR9) ?_
    refine rOf (fun R9 hR9 => xTk 5 (by rfl) rfl hR9) ?_
    exact hK V3 d2 ⟨a2, x2, t, ot2, C3, M3, h03, h813⟩ dl2
theorem k_guess {V : List eC} {d : Nat × Nat} {L j : Nat} {f : Nat → Int} {i : Int} {Q : (Option eV ⊕ Nat) × eW → Prop} (hi : i = (j : Int)) (hj : j + 6 ≤ L) (hL : L ≤ 3072) (hr : ∀ k, -2147483648 ≤ f k ∧ f k < 2147483648) (h : LI V L f) (hK : ∀ V' d', LI V' L f → dl d d' → Rs (ev m_L_law 3064 [some (eR 0), some (eR 1), some (eR 70), some (eR 81), some (eI i)] [] (V', d')) Q) : Rs (ev m_L_law 2584 [some (eR 0), some (eR 1), some (eR 70), some (eR 81), some (eI i)] [] (V, d)) Q := by
  obtain ⟨a, x, t0, ot, C, M, h0, h81⟩ := h
  obtain ⟨P1, h1⟩ := CI_1 C
  obtain ⟨P70, h70⟩ := MI_70 M
  have hI : iA a := CI_I C
  obtain ⟨a2, x2, t, v, ht, hq, hn⟩ := u_guess (a := a) (X := x) (hr (j + 1)) (hr (j + 2))
  by_cases ht0 : t = 0
  · refine rOf (fun R9 hR9 => xLdV (N := 6) (M2 := m_L_law) (pc2 := 2590) (r := 0) (ls2 := [some (eR 0), some (eR 1), some (eR 70), some (eR 81), some (eI i)]) (st2 := [eR 1]) (V := V) (d := d) (i := i + 1) (k := j + 1) (ok := eOkI) (mk := fun x => .inl x) rfl h0 rfl (wr_nat (by omega) (by omega)) (by omega) hR9) ?_
    refine rOf (fun R9 hR9 => xLdV (N := 5) (M2 := m_L_law) (pc2 := 2596) (r := 0) (ls2 := [some (eR 0), some (eR 1), some (eR 70), some (eR 81), some (eI i)]) (st2 := [eI (f (j + 1)), eR 1]) (V := V) (d := d) (i := i + 2) (k := j + 2) (ok := eOkI) (mk := fun x => .inl x) rfl h0 rfl (wr_nat (by omega) (by omega)) (by omega) hR9) ?_
    obtain ⟨V2, ot2, d2, q2, C2, o2, t2, fr2, dl2⟩ := hq V d ot C h81
    have h02 := (fr2.2 0 (by omega)).trans h0
    have h702 := (fr2.2 70 (by omega)).trans h70
    obtain ⟨P2, h12⟩ := CI_1 C2
    refine rOf (fun R9 hR9 => xCall (N := 2) (M2 := m_L_law) (pc2 := 2598) (ls2 := [some (eR 0), some (eR 1), some (eR 70), some (eR 81), some (eI i)]) (st2 := []) (y := m_L_guess) (as := [some (eR 1), some (eI (f (j + 1))), some (eI (f (j + 2))), some (eR 81)]) (w2 := (V, d)) rfl q2 hR9) ?_
    refine rOf (fun R9 hR9 => xLdV (N := 7) (M2 := m_L_law) (pc2 := 2609) (r := 0) (ls2 := [some (eR 0), some (eR 1), some (eR 70), some (eR 81), some (eI i), some (eI t)]) (st2 := [eR 70]) (V := V2) (d := d2) (i := i + 1) (k := j + 1) (ok := eOkI) (mk := fun x => .inl x) rfl h02 rfl (wr_nat (by omega) (by omega)) (by omega) hR9) ?_
    refine rOf (fun R9 hR9 => xLdV (N := 5) (M2 := m_L_law) (pc2 := 2615) (r := 0) (ls2 := [some (eR 0), some (eR 1), some (eR 70), some (eR 81), some (eI i), some (eI t)]) (st2 := [eI (f (j + 1)), eR 70]) (V := V2) (d := d2) (i := i + 2) (k := j + 2) (ok := eOkI) (mk := fun x => .inl x) rfl h02 rfl (wr_nat (by omega) (by omega)) (by omega) hR9) ?_
    obtain ⟨V3, b3, q3, M3, hb3, fm3⟩ := kmV (d := d2) hn (MI_fr (fun k hk => fr2.2 k (by omega)) M) rfl
    have h03 := (fm3.2 0 (by omega)).trans h02
    have h13 := (fm3.2 1 (by omega)).trans h12
    have h813 := (fm3.2 81 (by omega)).trans o2
    obtain ⟨P3, h703⟩ := MI_70 M3
    have C3 := CI_fr (Nat.le_of_eq fm3.1.symm) (fun k hk => fm3.2 k (by omega)) C2
    refine rOf (fun R9 hR9 => xCallA1 (N := 1) (M2 := m_L_law) (pc2 := 2616) (y := m_M_guess) (n := 3) (ls2 := [some (eR 0), some (eR 1), some (eR 70), some (eR 81), some (eI i), some (eI t)]) (st2 := []) (st9 := [eI (f (j + 2)), eI (f (j + 1)), eR 70]) (V := V2) (d := d2) (r := 70) (bs := [eI (f (j + 1)), eI (f (j + 2))]) rfl rfl h702 rfl q3 hR9) ?_
    refine rOf (fun R9 hR9 => xCallA1 (N := 3) (M2 := m_L_law) (pc2 := 2622) (y := m_M_thrown) (n := 1) (ls2 := [some (eR 0), some (eR 1), some (eR 70), some (eR 81), some (eI i), some (eI t), some (eI b3)]) (st2 := []) (st9 := [eR 70]) (V := V3) (d := d2) (r := 70) (bs := []) rfl rfl h703 rfl (thrV M3) hR9) ?_
    refine rOf (fun R9 hR9 => xEqT (N := 2) (x := t) (y := t) (A := ev m_L_law 2632 [some (eR 0), some (eR 1), some (eR 70), some (eR 81), some (eI i), some (eI t), some (eI b3)] [] (V3, d2)) (B := ev m_L_law 2630 [some (eR 0), some (eR 1), some (eR 70), some (eR 81), some (eI i), some (eI t), some (eI b3)] [] (V3, d2)) rfl rfl rfl rfl hR9) ?_
    refine rOf (fun R9 hR9 => xEqT (N := 2) (x := t) (y := 0) (A := ev m_L_law 2637 [some (eR 0), some (eR 1), some (eR 70), some (eR 81), some (eI i), some (eI t), some (eI b3)] [] (V3, d2)) (B := ev m_L_law 2649 [some (eR 0), some (eR 1), some (eR 70), some (eR 81), some (eI i), some (eI t), some (eI b3)] [] (V3, d2)) rfl (wr_id (by omega) (by omega)) (show wr 0 = 0 by decide) (by omega) hR9) ?_
    refine rOf (fun R9 hR9 => xLdV (N := 3) (M2 := m_L_law) (pc2 := 2639) (r := 81) (ls2 := [some (eR 0), some (eR 1), some (eR 70), some (eR 81), some (eI i), some (eI t), some (eI b3)]) (st2 := []) (V := V3) (d := d2) (i := 0) (k := 0) (ok := eOkJ) (mk := fun x => .inr (.inr (.inl x))) rfl h813 rfl (show wr 0 = ((0 : Nat) : Int) by decide) (by omega) hR9) ?_
    refine rOf (fun R9 hR9 => xEqT (N := 4) (x := bLcmp (ot2 0) (wr b3)) (y := 0) (A := ev m_L_law 2649 [some (eR 0), some (eR 1), some (eR 70), some (eR 81), some (eI i), some (eI t), some (eI b3)] [] (V3, d2)) (B := ev m_L_law 2647 [some (eR 0), some (eR 1), some (eR 70), some (eR 81), some (eI i), some (eI t), some (eI b3)] [] (V3, d2)) rfl (by rw [t2 ht0, hb3 ht0]; exact wrcmp) (show wr 0 = 0 by decide) rfl hR9) ?_
    refine rOf (fun R9 hR9 => xSeg (N := 1) (r := ev m_L_law 3064 [some (eR 0), some (eR 1), some (eR 70), some (eR 81), some (eI i), some (eI t), some (eI b3)] [] (V3, d2)) rfl hR9) ?_
    refine rOf (fun R9 hR9 => xTk 5 (by rfl) rfl hR9) ?_
    exact hK V3 d2 ⟨a2, x2, t, ot2, C3, M3, h03, h813⟩ dl2
  · refine rOf (fun R9 hR9 => xLdV (N := 6) (M2 := m_L_law) (pc2 := 2590) (r := 0) (ls2 := [some (eR 0), some (eR 1), some (eR 70), some (eR 81), some (eI i)]) (st2 := [eR 1]) (V := V) (d := d) (i := i + 1) (k := j + 1) (ok := eOkI) (mk := fun x => .inl x) rfl h0 rfl (wr_nat (by omega) (by omega)) (by omega) hR9) ?_
    refine rOf (fun R9 hR9 => xLdV (N := 5) (M2 := m_L_law) (pc2 := 2596) (r := 0) (ls2 := [some (eR 0), some (eR 1), some (eR 70), some (eR 81), some (eI i)]) (st2 := [eI (f (j + 1)), eR 1]) (V := V) (d := d) (i := i + 2) (k := j + 2) (ok := eOkI) (mk := fun x => .inl x) rfl h0 rfl (wr_nat (by omega) (by omega)) (by omega) hR9) ?_
    obtain ⟨V2, ot2, d2, q2, C2, o2, t2, fr2, dl2⟩ := hq V d ot C h81
    have h02 := (fr2.2 0 (by omega)).trans h0
    have h702 := (fr2.2 70 (by omega)).trans h70
    obtain ⟨P2, h12⟩ := CI_1 C2
    refine rOf (fun R9 hR9 => xCall (N := 2) (M2 := m_L_law) (pc2 := 2598) (ls2 := [some (eR 0), some (eR 1), some (eR 70), some (eR 81), some (eI i)]) (st2 := []) (y := m_L_guess) (as := [some (eR 1), some (eI (f (j + 1))), some (eI (f (j + 2))), some (eR 81)]) (w2 := (V, d)) rfl q2 hR9) ?_
    refine rOf (fun R9 hR9 => xLdV (N := 7) (M2 := m_L_law) (pc2 := 2609) (r := 0) (ls2 := [some (eR 0), some (eR 1), some (eR 70), some (eR 81), some (eI i), some (eI t)]) (st2 := [eR 70]) (V := V2) (d := d2) (i := i + 1) (k := j + 1) (ok := eOkI) (mk := fun x => .inl x) rfl h02 rfl (wr_nat (by omega) (by omega)) (by omega) hR9) ?_
    refine rOf (fun R9 hR9 => xLdV (N := 5) (M2 := m_L_law) (pc2 := 2615) (r := 0) (ls2 := [some (eR 0), some (eR 1), some (eR 70), some (eR 81), some (eI i), some (eI t)]) (st2 := [eI (f (j + 1)), eR 70]) (V := V2) (d := d2) (i := i + 2) (k := j + 2) (ok := eOkI) (mk := fun x => .inl x) rfl h02 rfl (wr_nat (by omega) (by omega)) (by omega) hR9) ?_
    obtain ⟨V3, b3, q3, M3, hb3, fm3⟩ := kmV (d := d2) hn (MI_fr (fun k hk => fr2.2 k (by omega)) M) rfl
    have h03 := (fm3.2 0 (by omega)).trans h02
    have h13 := (fm3.2 1 (by omega)).trans h12
    have h813 := (fm3.2 81 (by omega)).trans o2
    obtain ⟨P3, h703⟩ := MI_70 M3
    have C3 := CI_fr (Nat.le_of_eq fm3.1.symm) (fun k hk => fm3.2 k (by omega)) C2
    refine rOf (fun R9 hR9 => xCallA1 (N := 1) (M2 := m_L_law) (pc2 := 2616) (y := m_M_guess) (n := 3) (ls2 := [some (eR 0), some (eR 1), some (eR 70), some (eR 81), some (eI i), some (eI t)]) (st2 := []) (st9 := [eI (f (j + 2)), eI (f (j + 1)), eR 70]) (V := V2) (d := d2) (r := 70) (bs := [eI (f (j + 1)), eI (f (j + 2))]) rfl rfl h702 rfl q3 hR9) ?_
    refine rOf (fun R9 hR9 => xCallA1 (N := 3) (M2 := m_L_law) (pc2 := 2622) (y := m_M_thrown) (n := 1) (ls2 := [some (eR 0), some (eR 1), some (eR 70), some (eR 81), some (eI i), some (eI t), some (eI b3)]) (st2 := []) (st9 := [eR 70]) (V := V3) (d := d2) (r := 70) (bs := []) rfl rfl h703 rfl (thrV M3) hR9) ?_
    refine rOf (fun R9 hR9 => xEqT (N := 2) (x := t) (y := t) (A := ev m_L_law 2632 [some (eR 0), some (eR 1), some (eR 70), some (eR 81), some (eI i), some (eI t), some (eI b3)] [] (V3, d2)) (B := ev m_L_law 2630 [some (eR 0), some (eR 1), some (eR 70), some (eR 81), some (eI i), some (eI t), some (eI b3)] [] (V3, d2)) rfl rfl rfl rfl hR9) ?_
    refine rOf (fun R9 hR9 => xEqF (N := 2) (x := t) (y := 0) (A := ev m_L_law 2637 [some (eR 0), some (eR 1), some (eR 70), some (eR 81), some (eI i), some (eI t), some (eI b3)] [] (V3, d2)) (B := ev m_L_law 2649 [some (eR 0), some (eR 1), some (eR 70), some (eR 81), some (eI i), some (eI t), some (eI b3)] [] (V3, d2)) rfl (wr_id (by omega) (by omega)) (show wr 0 = 0 by decide) (by omega) hR9) ?_
    refine rOf (fun R9 hR9 => xSeg (N := 1) (r := ev m_L_law 3064 [some (eR 0), some (eR 1), some (eR 70), some (eR 81), some (eI i), some (eI t), some (eI b3)] [] (V3, d2)) rfl hR9) ?_
    refine rOf (fun R9 hR9 => xTk 5 (by rfl) rfl hR9) ?_
    exact hK V3 d2 ⟨a2, x2, t, ot2, C3, M3, h03, h813⟩ dl2
theorem k_leftAfter {V : List eC} {d : Nat × Nat} {L j : Nat} {f : Nat → Int} {i : Int} {Q : (Option eV ⊕ Nat) × eW → Prop} (hi : i = (j : Int)) (hj : j + 6 ≤ L) (hL : L ≤ 3072) (hr : ∀ k, -2147483648 ≤ f k ∧ f k < 2147483648) (h : LI V L f) (hK : ∀ V' d', LI V' L f → dl d d' → Rs (ev m_L_law 3064 [some (eR 0), some (eR 1), some (eR 70), some (eR 81), some (eI i)] [] (V', d')) Q) : Rs (ev m_L_law 2091 [some (eR 0), some (eR 1), some (eR 70), some (eR 81), some (eI i)] [] (V, d)) Q := by
  obtain ⟨a, x, t0, ot, C, M, h0, h81⟩ := h
  obtain ⟨P1, h1⟩ := CI_1 C
  obtain ⟨P70, h70⟩ := MI_70 M
  have hI : iA a := CI_I C
  obtain ⟨a2, x2, t, v, ht, hq, hn⟩ := u_leftAfter (a := a) (X := x) (hr (j + 1)) (hr (j + 2))
  by_cases ht0 : t = 0
  · refine rOf (fun R9 hR9 => xLdV (N := 6) (M2 := m_L_law) (pc2 := 2097) (r := 0) (ls2 := [some (eR 0), some (eR 1), some (eR 70), some (eR 81), some (eI i)]) (st2 := [eR 1]) (V := V) (d := d) (i := i + 1) (k := j + 1) (ok := eOkI) (mk := fun x => .inl x) rfl h0 rfl (wr_nat (by omega) (by omega)) (by omega) hR9) ?_
    refine rOf (fun R9 hR9 => xLdV (N := 5) (M2 := m_L_law) (pc2 := 2103) (r := 0) (ls2 := [some (eR 0), some (eR 1), some (eR 70), some (eR 81), some (eI i)]) (st2 := [eI (f (j + 1)), eR 1]) (V := V) (d := d) (i := i + 2) (k := j + 2) (ok := eOkI) (mk := fun x => .inl x) rfl h0 rfl (wr_nat (by omega) (by omega)) (by omega) hR9) ?_
    obtain ⟨V2, ot2, d2, q2, C2, o2, t2, fr2, dl2⟩ := hq V d ot C h81
    have h02 := (fr2.2 0 (by omega)).trans h0
    have h702 := (fr2.2 70 (by omega)).trans h70
    obtain ⟨P2, h12⟩ := CI_1 C2
    refine rOf (fun R9 hR9 => xCall (N := 2) (M2 := m_L_law) (pc2 := 2105) (ls2 := [some (eR 0), some (eR 1), some (eR 70), some (eR 81), some (eI i)]) (st2 := []) (y := m_L_leftAfter) (as := [some (eR 1), some (eI (f (j + 1))), some (eI (f (j + 2))), some (eR 81)]) (w2 := (V, d)) rfl q2 hR9) ?_
    refine rOf (fun R9 hR9 => xLdV (N := 7) (M2 := m_L_law) (pc2 := 2116) (r := 0) (ls2 := [some (eR 0), some (eR 1), some (eR 70), some (eR 81), some (eI i), some (eI t)]) (st2 := [eR 70]) (V := V2) (d := d2) (i := i + 1) (k := j + 1) (ok := eOkI) (mk := fun x => .inl x) rfl h02 rfl (wr_nat (by omega) (by omega)) (by omega) hR9) ?_
    refine rOf (fun R9 hR9 => xLdV (N := 5) (M2 := m_L_law) (pc2 := 2122) (r := 0) (ls2 := [some (eR 0), some (eR 1), some (eR 70), some (eR 81), some (eI i), some (eI t)]) (st2 := [eI (f (j + 1)), eR 70]) (V := V2) (d := d2) (i := i + 2) (k := j + 2) (ok := eOkI) (mk := fun x => .inl x) rfl h02 rfl (wr_nat (by omega) (by omega)) (by omega) hR9) ?_
    obtain ⟨V3, b3, q3, M3, hb3, fm3⟩ := kmV (d := d2) hn (MI_fr (fun k hk => fr2.2 k (by omega)) M) rfl
    have h03 := (fm3.2 0 (by omega)).trans h02
    have h13 := (fm3.2 1 (by omega)).trans h12
    have h813 := (fm3.2 81 (by omega)).trans o2
    obtain ⟨P3, h703⟩ := MI_70 M3
    have C3 := CI_fr (Nat.le_of_eq fm3.1.symm) (fun k hk => fm3.2 k (by omega)) C2
    refine rOf (fun R9 hR9 => xCallA1 (N := 1) (M2 := m_L_law) (pc2 := 2123) (y := m_M_leftAfter) (n := 3) (ls2 := [some (eR 0), some (eR 1), some (eR 70), some (eR 81), some (eI i), some (eI t)]) (st2 := []) (st9 := [eI (f (j + 2)), eI (f (j + 1)), eR 70]) (V := V2) (d := d2) (r := 70) (bs := [eI (f (j + 1)), eI (f (j + 2))]) rfl rfl h702 rfl q3 hR9) ?_
    refine rOf (fun R9 hR9 => xCallA1 (N := 3) (M2 := m_L_law) (pc2 := 2129) (y := m_M_thrown) (n := 1) (ls2 := [some (eR 0), some (eR 1), some (eR 70), some (eR 81), some (eI i), some (eI t), some (eI b3)]) (st2 := []) (st9 := [eR 70]) (V := V3) (d := d2) (r := 70) (bs := []) rfl rfl h703 rfl (thrV M3) hR9) ?_
    refine rOf (fun R9 hR9 => xEqT (N := 2) (x := t) (y := t) (A := ev m_L_law 2139 [some (eR 0), some (eR 1), some (eR 70), some (eR 81), some (eI i), some (eI t), some (eI b3)] [] (V3, d2)) (B := ev m_L_law 2137 [some (eR 0), some (eR 1), some (eR 70), some (eR 81), some (eI i), some (eI t), some (eI b3)] [] (V3, d2)) rfl rfl rfl rfl hR9) ?_
    refine rOf (fun R9 hR9 => xEqT (N := 2) (x := t) (y := 0) (A := ev m_L_law 2144 [some (eR 0), some (eR 1), some (eR 70), some (eR 81), some (eI i), some (eI t), some (eI b3)] [] (V3, d2)) (B := ev m_L_law 2156 [some (eR 0), some (eR 1), some (eR 70), some (eR 81), some (eI i), some (eI t), some (eI b3)] [] (V3, d2)) rfl (wr_id (by omega) (by omega)) (show wr 0 = 0 by decide) (by omega) hR9) ?_
    refine rOf (fun R9 hR9 => xLdV (N := 3) (M2 := m_L_law) (pc2 := 2146) (r := 81) (ls2 := [some (eR 0), some (eR 1), some (eR 70), some (eR 81), some (eI i), some (eI t), some (eI b3)]) (st2 := []) (V := V3) (d := d2) (i := 0) (k := 0) (ok := eOkJ) (mk := fun x => .inr (.inr (.inl x))) rfl h813 rfl (show wr 0 = ((0 : Nat) : Int) by decide) (by omega) hR9) ?_
    refine rOf (fun R9 hR9 => xEqT (N := 4) (x := bLcmp (ot2 0) (wr b3)) (y := 0) (A := ev m_L_law 2156 [some (eR 0), some (eR 1), some (eR 70), some (eR 81), some (eI i), some (eI t), some (eI b3)] [] (V3, d2)) (B := ev m_L_law 2154 [some (eR 0), some (eR 1), some (eR 70), some (eR 81), some (eI i), some (eI t), some (eI b3)] [] (V3, d2)) rfl (by rw [t2 ht0, hb3 ht0]; exact wrcmp) (show wr 0 = 0 by decide) rfl hR9) ?_
    refine rOf (fun R9 hR9 => xSeg (N := 1) (r := ev m_L_law 3064 [some (eR 0), some (eR 1), some (eR 70), some (eR 81), some (eI i), some (eI t), some (eI b3)] [] (V3, d2)) rfl hR9) ?_
    refine rOf (fun R9 hR9 => xTk 5 (by rfl) rfl hR9) ?_
    exact hK V3 d2 ⟨a2, x2, t, ot2, C3, M3, h03, h813⟩ dl2
  · refine rOf (fun R9 hR9 => xLdV (N := 6) (M2 := m_L_law) (pc2 := 2097) (r := 0) (ls2 := [some (eR 0), some (eR 1), some (eR 70), some (eR 81), some (eI i)]) (st2 := [eR 1]) (V := V) (d := d) (i := i + 1) (k := j + 1) (ok := eOkI) (mk := fun x => .inl x) rfl h0 rfl (wr_nat (by omega) (by omega)) (by omega) hR9) ?_
    refine rOf (fun R9 hR9 => xLdV (N := 5) (M2 := m_L_law) (pc2 := 2103) (r := 0) (ls2 := [some (eR 0), some (eR 1), some (eR 70), some (eR 81), some (eI i)]) (st2 := [eI (f (j + 1)), eR 1]) (V := V) (d := d) (i := i + 2) (k := j + 2) (ok := eOkI) (mk := fun x => .inl x) rfl h0 rfl (wr_nat (by omega) (by omega)) (by omega) hR9) ?_
    obtain ⟨V2, ot2, d2, q2, C2, o2, t2, fr2, dl2⟩ := hq V d ot C h81
    have h02 := (fr2.2 0 (by omega)).trans h0
    have h702 := (fr2.2 70 (by omega)).trans h70
    obtain ⟨P2, h12⟩ := CI_1 C2
    refine rOf (fun R9 hR9 => xCall (N := 2) (M2 := m_L_law) (pc2 := 2105) (ls2 := [some (eR 0), some (eR 1), some (eR 70), some (eR 81), some (eI i)]) (st2 := []) (y := m_L_leftAfter) (as := [some (eR 1), some (eI (f (j + 1))), some (eI (f (j + 2))), some (eR 81)]) (w2 := (V, d)) rfl q2 hR9) ?_
    refine rOf (fun R9 hR9 => xLdV (N := 7) (M2 := m_L_law) (pc2 := 2116) (r := 0) (ls2 := [some (eR 0), some (eR 1), some (eR 70), some (eR 81), some (eI i), some (eI t)]) (st2 := [eR 70]) (V := V2) (d := d2) (i := i + 1) (k := j + 1) (ok := eOkI) (mk := fun x => .inl x) rfl h02 rfl (wr_nat (by omega) (by omega)) (by omega) hR9) ?_
    refine rOf (fun R9 hR9 => xLdV (N := 5) (M2 := m_L_law) (pc2 := 2122) (r := 0) (ls2 := [some (eR 0), some (eR 1), some (eR 70), some (eR 81), some (eI i), some (eI t)]) (st2 := [eI (f (j + 1)), eR 70]) (V := V2) (d := d2) (i := i + 2) (k := j + 2) (ok := eOkI) (mk := fun x => .inl x) rfl h02 rfl (wr_nat (by omega) (by omega)) (by omega) hR9) ?_
    obtain ⟨V3, b3, q3, M3, hb3, fm3⟩ := kmV (d := d2) hn (MI_fr (fun k hk => fr2.2 k (by omega)) M) rfl
    have h03 := (fm3.2 0 (by omega)).trans h02
    have h13 := (fm3.2 1 (by omega)).trans h12
    have h813 := (fm3.2 81 (by omega)).trans o2
    obtain ⟨P3, h703⟩ := MI_70 M3
    have C3 := CI_fr (Nat.le_of_eq fm3.1.symm) (fun k hk => fm3.2 k (by omega)) C2
    refine rOf (fun R9 hR9 => xCallA1 (N := 1) (M2 := m_L_law) (pc2 := 2123) (y := m_M_leftAfter) (n := 3) (ls2 := [some (eR 0), some (eR 1), some (eR 70), some (eR 81), some (eI i), some (eI t)]) (st2 := []) (st9 := [eI (f (j + 2)), eI (f (j + 1)), eR 70]) (V := V2) (d := d2) (r := 70) (bs := [eI (f (j + 1)), eI (f (j + 2))]) rfl rfl h702 rfl q3 hR9) ?_
    refine rOf (fun R9 hR9 => xCallA1 (N := 3) (M2 := m_L_law) (pc2 := 2129) (y := m_M_thrown) (n := 1) (ls2 := [some (eR 0), some (eR 1), some (eR 70), some (eR 81), some (eI i), some (eI t), some (eI b3)]) (st2 := []) (st9 := [eR 70]) (V := V3) (d := d2) (r := 70) (bs := []) rfl rfl h703 rfl (thrV M3) hR9) ?_
    refine rOf (fun R9 hR9 => xEqT (N := 2) (x := t) (y := t) (A := ev m_L_law 2139 [some (eR 0), some (eR 1), some (eR 70), some (eR 81), some (eI i), some (eI t), some (eI b3)] [] (V3, d2)) (B := ev m_L_law 2137 [some (eR 0), some (eR 1), some (eR 70), some (eR 81), some (eI i), some (eI t), some (eI b3)] [] (V3, d2)) rfl rfl rfl rfl hR9) ?_
    refine rOf (fun R9 hR9 => xEqF (N := 2) (x := t) (y := 0) (A := ev m_L_law 2144 [some (eR 0), some (eR 1), some (eR 70), some (eR 81), some (eI i), some (eI t), some (eI b3)] [] (V3, d2)) (B := ev m_L_law 2156 [some (eR 0), some (eR 1), some (eR 70), some (eR 81), some (eI i), some (eI t), some (eI b3)] [] (V3, d2)) rfl (wr_id (by omega) (by omega)) (show wr 0 = 0 by decide) (by omega) hR9) ?_
    refine rOf (fun R9 hR9 => xSeg (N := 1) (r := ev m_L_law 3064 [some (eR 0), some (eR 1), some (eR 70), some (eR 81), some (eI i), some (eI t), some (eI b3)] [] (V3, d2)) rfl hR9) ?_
    refine rOf (fun R9 hR9 => xTk 5 (by rfl) rfl hR9) ?_
    exact hK V3 d2 ⟨a2, x2, t, ot2, C3, M3, h03, h813⟩ dl2
theorem k_wouldStick {V : List eC} {d : Nat × Nat} {L j : Nat} {f : Nat → Int} {i : Int} {Q : (Option eV ⊕ Nat) × eW → Prop} (hi : i = (j : Int)) (hj : j + 6 ≤ L) (hL : L ≤ 3072) (hr : ∀ k, -2147483648 ≤ f k ∧ f k < 2147483648) (h : LI V L f) (hK : ∀ V' d', LI V' L f → dl d d' → Rs (ev m_L_law 3064 [some (eR 0), some (eR 1), some (eR 70), some (eR 81), some (eI i)] [] (V', d')) Q) : Rs (ev m_L_law 2159 [some (eR 0), some (eR 1), some (eR 70), some (eR 81), some (eI i)] [] (V, d)) Q := by
  obtain ⟨a, x, t0, ot, C, M, h0, h81⟩ := h
  obtain ⟨P1, h1⟩ := CI_1 C
  obtain ⟨P70, h70⟩ := MI_70 M
  have hI : iA a := CI_I C
  obtain ⟨a2, x2, t, v, ht, hv9, hq, hn⟩ := u_wouldStick (a := a) (X := x) (hr (j + 1)) (hr (j + 2))
  by_cases ht0 : t = 0
  · rcases hv9 ht0 with hv1 | hv1
    · refine rOf (fun R9 hR9 => xLdV (N := 6) (M2 := m_L_law) (pc2 := 2165) (r := 0) (ls2 := [some (eR 0), some (eR 1), some (eR 70), some (eR 81), some (eI i)]) (st2 := [eR 1]) (V := V) (d := d) (i := i + 1) (k := j + 1) (ok := eOkI) (mk := fun x => .inl x) rfl h0 rfl (wr_nat (by omega) (by omega)) (by omega) hR9) ?_
      refine rOf (fun R9 hR9 => xLdV (N := 5) (M2 := m_L_law) (pc2 := 2171) (r := 0) (ls2 := [some (eR 0), some (eR 1), some (eR 70), some (eR 81), some (eI i)]) (st2 := [eI (f (j + 1)), eR 1]) (V := V) (d := d) (i := i + 2) (k := j + 2) (ok := eOkI) (mk := fun x => .inl x) rfl h0 rfl (wr_nat (by omega) (by omega)) (by omega) hR9) ?_
      obtain ⟨V2, ot2, d2, q2, C2, o2, t2, fr2, dl2⟩ := hq V d ot C h81
      have h02 := (fr2.2 0 (by omega)).trans h0
      have h702 := (fr2.2 70 (by omega)).trans h70
      obtain ⟨P2, h12⟩ := CI_1 C2
      refine rOf (fun R9 hR9 => xCall (N := 2) (M2 := m_L_law) (pc2 := 2173) (ls2 := [some (eR 0), some (eR 1), some (eR 70), some (eR 81), some (eI i)]) (st2 := []) (y := m_L_wouldStick) (as := [some (eR 1), some (eI (f (j + 1))), some (eI (f (j + 2))), some (eR 81)]) (w2 := (V, d)) rfl q2 hR9) ?_
      refine rOf (fun R9 hR9 => xLdV (N := 7) (M2 := m_L_law) (pc2 := 2184) (r := 0) (ls2 := [some (eR 0), some (eR 1), some (eR 70), some (eR 81), some (eI i), some (eI t)]) (st2 := [eR 70]) (V := V2) (d := d2) (i := i + 1) (k := j + 1) (ok := eOkI) (mk := fun x => .inl x) rfl h02 rfl (wr_nat (by omega) (by omega)) (by omega) hR9) ?_
      refine rOf (fun R9 hR9 => xLdV (N := 5) (M2 := m_L_law) (pc2 := 2190) (r := 0) (ls2 := [some (eR 0), some (eR 1), some (eR 70), some (eR 81), some (eI i), some (eI t)]) (st2 := [eI (f (j + 1)), eR 70]) (V := V2) (d := d2) (i := i + 2) (k := j + 2) (ok := eOkI) (mk := fun x => .inl x) rfl h02 rfl (wr_nat (by omega) (by omega)) (by omega) hR9) ?_
      obtain ⟨V3, b3, q3, M3, hb3, fm3⟩ := kmV (d := d2) hn (MI_fr (fun k hk => fr2.2 k (by omega)) M) rfl
      have h03 := (fm3.2 0 (by omega)).trans h02
      have h13 := (fm3.2 1 (by omega)).trans h12
      have h813 := (fm3.2 81 (by omega)).trans o2
      obtain ⟨P3, h703⟩ := MI_70 M3
      have C3 := CI_fr (Nat.le_of_eq fm3.1.symm) (fun k hk => fm3.2 k (by omega)) C2
      refine rOf (fun R9 hR9 => xCallA1 (N := 1) (M2 := m_L_law) (pc2 := 2191) (y := m_M_wouldStick) (n := 3) (ls2 := [some (eR 0), some (eR 1), some (eR 70), some (eR 81), some (eI i), some (eI t)]) (st2 := []) (st9 := [eI (f (j + 2)), eI (f (j + 1)), eR 70]) (V := V2) (d := d2) (r := 70) (bs := [eI (f (j + 1)), eI (f (j + 2))]) rfl rfl h702 rfl q3 hR9) ?_
      refine rOf (fun R9 hR9 => xCallA1 (N := 3) (M2 := m_L_law) (pc2 := 2197) (y := m_M_thrown) (n := 1) (ls2 := [some (eR 0), some (eR 1), some (eR 70), some (eR 81), some (eI i), some (eI t), some (eI b3)]) (st2 := []) (st9 := [eR 70]) (V := V3) (d := d2) (r := 70) (bs := []) rfl rfl h703 rfl (thrV M3) hR9) ?_
      refine rOf (fun R9 hR9 => xEqT (N := 2) (x := t) (y := t) (A := ev m_L_law 2207 [some (eR 0), some (eR 1), some (eR 70), some (eR 81), some (eI i), some (eI t), some (eI b3)] [] (V3, d2)) (B := ev m_L_law 2205 [some (eR 0), some (eR 1), some (eR 70), some (eR 81), some (eI i), some (eI t), some (eI b3)] [] (V3, d2)) rfl rfl rfl rfl hR9) ?_
      refine rOf (fun R9 hR9 => xEqT (N := 2) (x := t) (y := 0) (A := ev m_L_law 2212 [some (eR 0), some (eR 1), some (eR 70), some (eR 81), some (eI i), some (eI t), some (eI b3)] [] (V3, d2)) (B := ev m_L_law 2231 [some (eR 0), some (eR 1), some (eR 70), some (eR 81), some (eI i), some (eI t), some (eI b3)] [] (V3, d2)) rfl (wr_id (by omega) (by omega)) (show wr 0 = 0 by decide) (by omega) hR9) ?_
      refine rOf (fun R9 hR9 => xLdV (N := 3) (M2 := m_L_law) (pc2 := 2214) (r := 81) (ls2 := [some (eR 0), some (eR 1), some (eR 70), some (eR 81), some (eI i), some (eI t), some (eI b3)]) (st2 := []) (V := V3) (d := d2) (i := 0) (k := 0) (ok := eOkJ) (mk := fun x => .inr (.inr (.inl x))) rfl h813 rfl (show wr 0 = ((0 : Nat) : Int) by decide) (by omega) hR9) ?_
      refine rOf (fun R9 hR9 => xEqF (N := 2) (x := b3) (y := 0) (A := ev m_L_law 2224 [some (eR 0), some (eR 1), some (eR 70), some (eR 81), some (eI i), some (eI t), some (eI b3)] [eJ (ot2 0)] (V3, d2)) (B := ev m_L_law 2220 [some (eR 0), some (eR 1), some (eR 70), some (eR 81), some (eI i), some (eI t), some (eI b3)] [eJ (ot2 0)] (V3, d2)) rfl (show wr b3 = 1 by rw [hb3 ht0, hv1]; decide) (show wr 0 = 0 by decide) (by decide) hR9) ?_
      refine rOf (fun R9 hR9 => xEqT (N := 4) (x := bLcmp (ot2 0) 1) (y := 0) (A := ev m_L_law 2231 [some (eR 0), some (eR 1), some (eR 70), some (eR 81), some (eI i), some (eI t), some (eI b3)] [] (V3, d2)) (B := ev m_L_law 2229 [some (eR 0), some (eR 1), some (eR 70), some (eR 81), some (eI i), some (eI t), some (eI b3)] [] (V3, d2)) rfl (by rw [t2 ht0, hv1]; exact wrcmp1) (show wr 0 = 0 by decide) rfl hR9) ?_
      refine rOf (fun R9 hR9 => xSeg (N := 1) (r := ev m_L_law 3064 [some (eR 0), some (eR 1), some (eR 70), some (eR 81), some (eI i), some (eI t), some (eI b3)] [] (V3, d2)) rfl hR9) ?_
      refine rOf (fun R9 hR9 => xTk 5 (by rfl) rfl hR9) ?_
      exact hK V3 d2 ⟨a2, x2, t, ot2, C3, M3, h03, h813⟩ dl2
    · refine rOf (fun R9 hR9 => xLdV (N := 6) (M2 := m_L_law) (pc2 := 2165) (r := 0) (ls2 := [some (eR 0), some (eR 1), some (eR 70), some (eR 81), some (eI i)]) (st2 := [eR 1]) (V := V) (d := d) (i := i + 1) (k := j + 1) (ok := eOkI) (mk := fun x => .inl x) rfl h0 rfl (wr_nat (by omega) (by omega)) (by omega) hR9) ?_
      refine rOf (fun R9 hR9 => xLdV (N := 5) (M2 := m_L_law) (pc2 := 2171) (r := 0) (ls2 := [some (eR 0), some (eR 1), some (eR 70), some (eR 81), some (eI i)]) (st2 := [eI (f (j + 1)), eR 1]) (V := V) (d := d) (i := i + 2) (k := j + 2) (ok := eOkI) (mk := fun x => .inl x) rfl h0 rfl (wr_nat (by omega) (by omega)) (by omega) hR9) ?_
      obtain ⟨V2, ot2, d2, q2, C2, o2, t2, fr2, dl2⟩ := hq V d ot C h81
      have h02 := (fr2.2 0 (by omega)).trans h0
      have h702 := (fr2.2 70 (by omega)).trans h70
      obtain ⟨P2, h12⟩ := CI_1 C2
      refine rOf (fun R9 hR9 => xCall (N := 2) (M2 := m_L_law) (pc2 := 2173) (ls2 := [some (eR 0), some (eR 1), some (eR 70), some (eR 81), some (eI i)]) (st2 := []) (y := m_L_wouldStick) (as := [some (eR 1), some (eI (f (j + 1))), some (eI (f (j + 2))), some (eR 81)]) (w2 := (V, d)) rfl q2 hR9) ?_
      refine rOf (fun R9 hR9 => xLdV (N := 7) (M2 := m_L_law) (pc2 := 2184) (r := 0) (ls2 := [some (eR 0), some (eR 1), some (eR 70), some (eR 81), some (eI i), some (eI t)]) (st2 := [eR 70]) (V := V2) (d := d2) (i := i + 1) (k := j + 1) (ok := eOkI) (mk := fun x => .inl x) rfl h02 rfl (wr_nat (by omega) (by omega)) (by omega) hR9) ?_
      refine rOf (fun R9 hR9 => xLdV (N := 5) (M2 := m_L_law) (pc2 := 2190) (r := 0) (ls2 := [some (eR 0), some (eR 1), some (eR 70), some (eR 81), some (eI i), some (eI t)]) (st2 := [eI (f (j + 1)), eR 70]) (V := V2) (d := d2) (i := i + 2) (k := j + 2) (ok := eOkI) (mk := fun x => .inl x) rfl h02 rfl (wr_nat (by omega) (by omega)) (by omega) hR9) ?_
      obtain ⟨V3, b3, q3, M3, hb3, fm3⟩ := kmV (d := d2) hn (MI_fr (fun k hk => fr2.2 k (by omega)) M) rfl
      have h03 := (fm3.2 0 (by omega)).trans h02
      have h13 := (fm3.2 1 (by omega)).trans h12
      have h813 := (fm3.2 81 (by omega)).trans o2
      obtain ⟨P3, h703⟩ := MI_70 M3
      have C3 := CI_fr (Nat.le_of_eq fm3.1.symm) (fun k hk => fm3.2 k (by omega)) C2
      refine rOf (fun R9 hR9 => xCallA1 (N := 1) (M2 := m_L_law) (pc2 := 2191) (y := m_M_wouldStick) (n := 3) (ls2 := [some (eR 0), some (eR 1), some (eR 70), some (eR 81), some (eI i), some (eI t)]) (st2 := []) (st9 := [eI (f (j + 2)), eI (f (j + 1)), eR 70]) (V := V2) (d := d2) (r := 70) (bs := [eI (f (j + 1)), eI (f (j + 2))]) rfl rfl h702 rfl q3 hR9) ?_
      refine rOf (fun R9 hR9 => xCallA1 (N := 3) (M2 := m_L_law) (pc2 := 2197) (y := m_M_thrown) (n := 1) (ls2 := [some (eR 0), some (eR 1), some (eR 70), some (eR 81), some (eI i), some (eI t), some (eI b3)]) (st2 := []) (st9 := [eR 70]) (V := V3) (d := d2) (r := 70) (bs := []) rfl rfl h703 rfl (thrV M3) hR9) ?_
      refine rOf (fun R9 hR9 => xEqT (N := 2) (x := t) (y := t) (A := ev m_L_law 2207 [some (eR 0), some (eR 1), some (eR 70), some (eR 81), some (eI i), some (eI t), some (eI b3)] [] (V3, d2)) (B := ev m_L_law 2205 [some (eR 0), some (eR 1), some (eR 70), some (eR 81), some (eI i), some (eI t), some (eI b3)] [] (V3, d2)) rfl rfl rfl rfl hR9) ?_
      refine rOf (fun R9 hR9 => xEqT (N := 2) (x := t) (y := 0) (A := ev m_L_law 2212 [some (eR 0), some (eR 1), some (eR 70), some (eR 81), some (eI i), some (eI t), some (eI b3)] [] (V3, d2)) (B := ev m_L_law 2231 [some (eR 0), some (eR 1), some (eR 70), some (eR 81), some (eI i), some (eI t), some (eI b3)] [] (V3, d2)) rfl (wr_id (by omega) (by omega)) (show wr 0 = 0 by decide) (by omega) hR9) ?_
      refine rOf (fun R9 hR9 => xLdV (N := 3) (M2 := m_L_law) (pc2 := 2214) (r := 81) (ls2 := [some (eR 0), some (eR 1), some (eR 70), some (eR 81), some (eI i), some (eI t), some (eI b3)]) (st2 := []) (V := V3) (d := d2) (i := 0) (k := 0) (ok := eOkJ) (mk := fun x => .inr (.inr (.inl x))) rfl h813 rfl (show wr 0 = ((0 : Nat) : Int) by decide) (by omega) hR9) ?_
      refine rOf (fun R9 hR9 => xEqT (N := 2) (x := b3) (y := 0) (A := ev m_L_law 2224 [some (eR 0), some (eR 1), some (eR 70), some (eR 81), some (eI i), some (eI t), some (eI b3)] [eJ (ot2 0)] (V3, d2)) (B := ev m_L_law 2220 [some (eR 0), some (eR 1), some (eR 70), some (eR 81), some (eI i), some (eI t), some (eI b3)] [eJ (ot2 0)] (V3, d2)) rfl (show wr b3 = 0 by rw [hb3 ht0, hv1]; decide) (show wr 0 = 0 by decide) (by decide) hR9) ?_
      refine rOf (fun R9 hR9 => xEqT (N := 3) (x := bLcmp (ot2 0) 0) (y := 0) (A := ev m_L_law 2231 [some (eR 0), some (eR 1), some (eR 70), some (eR 81), some (eI i), some (eI t), some (eI b3)] [] (V3, d2)) (B := ev m_L_law 2229 [some (eR 0), some (eR 1), some (eR 70), some (eR 81), some (eI i), some (eI t), some (eI b3)] [] (V3, d2)) rfl (by rw [t2 ht0, hv1]; exact wrcmp0) (show wr 0 = 0 by decide) rfl hR9) ?_
      refine rOf (fun R9 hR9 => xSeg (N := 1) (r := ev m_L_law 3064 [some (eR 0), some (eR 1), some (eR 70), some (eR 81), some (eI i), some (eI t), some (eI b3)] [] (V3, d2)) rfl hR9) ?_
      refine rOf (fun R9 hR9 => xTk 5 (by rfl) rfl hR9) ?_
      exact hK V3 d2 ⟨a2, x2, t, ot2, C3, M3, h03, h813⟩ dl2
  · refine rOf (fun R9 hR9 => xLdV (N := 6) (M2 := m_L_law) (pc2 := 2165) (r := 0) (ls2 := [some (eR 0), some (eR 1), some (eR 70), some (eR 81), some (eI i)]) (st2 := [eR 1]) (V := V) (d := d) (i := i + 1) (k := j + 1) (ok := eOkI) (mk := fun x => .inl x) rfl h0 rfl (wr_nat (by omega) (by omega)) (by omega) hR9) ?_
    refine rOf (fun R9 hR9 => xLdV (N := 5) (M2 := m_L_law) (pc2 := 2171) (r := 0) (ls2 := [some (eR 0), some (eR 1), some (eR 70), some (eR 81), some (eI i)]) (st2 := [eI (f (j + 1)), eR 1]) (V := V) (d := d) (i := i + 2) (k := j + 2) (ok := eOkI) (mk := fun x => .inl x) rfl h0 rfl (wr_nat (by omega) (by omega)) (by omega) hR9) ?_
    obtain ⟨V2, ot2, d2, q2, C2, o2, t2, fr2, dl2⟩ := hq V d ot C h81
    have h02 := (fr2.2 0 (by omega)).trans h0
    have h702 := (fr2.2 70 (by omega)).trans h70
    obtain ⟨P2, h12⟩ := CI_1 C2
    refine rOf (fun R9 hR9 => xCall (N := 2) (M2 := m_L_law) (pc2 := 2173) (ls2 := [some (eR 0), some (eR 1), some (eR 70), some (eR 81), some (eI i)]) (st2 := []) (y := m_L_wouldStick) (as := [some (eR 1), some (eI (f (j + 1))), some (eI (f (j + 2))), some (eR 81)]) (w2 := (V, d)) rfl q2 hR9) ?_
    refine rOf (fun R9 hR9 => xLdV (N := 7) (M2 := m_L_law) (pc2 := 2184) (r := 0) (ls2 := [some (eR 0), some (eR 1), some (eR 70), some (eR 81), some (eI i), some (eI t)]) (st2 := [eR 70]) (V := V2) (d := d2) (i := i + 1) (k := j + 1) (ok := eOkI) (mk := fun x => .inl x) rfl h02 rfl (wr_nat (by omega) (by omega)) (by omega) hR9) ?_
    refine rOf (fun R9 hR9 => xLdV (N := 5) (M2 := m_L_law) (pc2 := 2190) (r := 0) (ls2 := [some (eR 0), some (eR 1), some (eR 70), some (eR 81), some (eI i), some (eI t)]) (st2 := [eI (f (j + 1)), eR 70]) (V := V2) (d := d2) (i := i + 2) (k := j + 2) (ok := eOkI) (mk := fun x => .inl x) rfl h02 rfl (wr_nat (by omega) (by omega)) (by omega) hR9) ?_
    obtain ⟨V3, b3, q3, M3, hb3, fm3⟩ := kmV (d := d2) hn (MI_fr (fun k hk => fr2.2 k (by omega)) M) rfl
    have h03 := (fm3.2 0 (by omega)).trans h02
    have h13 := (fm3.2 1 (by omega)).trans h12
    have h813 := (fm3.2 81 (by omega)).trans o2
    obtain ⟨P3, h703⟩ := MI_70 M3
    have C3 := CI_fr (Nat.le_of_eq fm3.1.symm) (fun k hk => fm3.2 k (by omega)) C2
    refine rOf (fun R9 hR9 => xCallA1 (N := 1) (M2 := m_L_law) (pc2 := 2191) (y := m_M_wouldStick) (n := 3) (ls2 := [some (eR 0), some (eR 1), some (eR 70), some (eR 81), some (eI i), some (eI t)]) (st2 := []) (st9 := [eI (f (j + 2)), eI (f (j + 1)), eR 70]) (V := V2) (d := d2) (r := 70) (bs := [eI (f (j + 1)), eI (f (j + 2))]) rfl rfl h702 rfl q3 hR9) ?_
    refine rOf (fun R9 hR9 => xCallA1 (N := 3) (M2 := m_L_law) (pc2 := 2197) (y := m_M_thrown) (n := 1) (ls2 := [some (eR 0), some (eR 1), some (eR 70), some (eR 81), some (eI i), some (eI t), some (eI b3)]) (st2 := []) (st9 := [eR 70]) (V := V3) (d := d2) (r := 70) (bs := []) rfl rfl h703 rfl (thrV M3) hR9) ?_
    refine rOf (fun R9 hR9 => xEqT (N := 2) (x := t) (y := t) (A := ev m_L_law 2207 [some (eR 0), some (eR 1), some (eR 70), some (eR 81), some (eI i), some (eI t), some (eI b3)] [] (V3, d2)) (B := ev m_L_law 2205 [some (eR 0), some (eR 1), some (eR 70), some (eR 81), some (eI i), some (eI t), some (eI b3)] [] (V3, d2)) rfl rfl rfl rfl hR9) ?_
    refine rOf (fun R9 hR9 => xEqF (N := 2) (x := t) (y := 0) (A := ev m_L_law 2212 [some (eR 0), some (eR 1), some (eR 70), some (eR 81), some (eI i), some (eI t), some (eI b3)] [] (V3, d2)) (B := ev m_L_law 2231 [some (eR 0), some (eR 1), some (eR 70), some (eR 81), some (eI i), some (eI t), some (eI b3)] [] (V3, d2)) rfl (wr_id (by omega) (by omega)) (show wr 0 = 0 by decide) (by omega) hR9) ?_
    refine rOf (fun R9 hR9 => xSeg (N := 1) (r := ev m_L_law 3064 [some (eR 0), some (eR 1), some (eR 70), some (eR 81), some (eI i), some (eI t), some (eI b3)] [] (V3, d2)) rfl hR9) ?_
    refine rOf (fun R9 hR9 => xTk 5 (by rfl) rfl hR9) ?_
    exact hK V3 d2 ⟨a2, x2, t, ot2, C3, M3, h03, h813⟩ dl2
theorem k_truncateInput {V : List eC} {d : Nat × Nat} {L j : Nat} {f : Nat → Int} {i : Int} {Q : (Option eV ⊕ Nat) × eW → Prop} (hi : i = (j : Int)) (hj : j + 6 ≤ L) (hL : L ≤ 3072) (hr : ∀ k, -2147483648 ≤ f k ∧ f k < 2147483648) (h : LI V L f) (hK : ∀ V' d', LI V' L f → dl d d' → Rs (ev m_L_law 3064 [some (eR 0), some (eR 1), some (eR 70), some (eR 81), some (eI i)] [] (V', d')) Q) : Rs (ev m_L_law 404 [some (eR 0), some (eR 1), some (eR 70), some (eR 81), some (eI i)] [] (V, d)) Q := by
  obtain ⟨a, x, t0, ot, C, M, h0, h81⟩ := h
  obtain ⟨P1, h1⟩ := CI_1 C
  obtain ⟨P70, h70⟩ := MI_70 M
  have hI : iA a := CI_I C
  obtain ⟨a2, x2, t, v, ht, hq, hn⟩ := u_truncateInput (a := a) (X := x) (hr (j + 1))
  by_cases ht0 : t = 0
  · refine rOf (fun R9 hR9 => xLdV (N := 6) (M2 := m_L_law) (pc2 := 410) (r := 0) (ls2 := [some (eR 0), some (eR 1), some (eR 70), some (eR 81), some (eI i)]) (st2 := [eR 1]) (V := V) (d := d) (i := i + 1) (k := j + 1) (ok := eOkI) (mk := fun x => .inl x) rfl h0 rfl (wr_nat (by omega) (by omega)) (by omega) hR9) ?_
    obtain ⟨V2, ot2, d2, q2, C2, o2, t2, fr2, dl2⟩ := hq V d ot C h81
    have h02 := (fr2.2 0 (by omega)).trans h0
    have h702 := (fr2.2 70 (by omega)).trans h70
    obtain ⟨P2, h12⟩ := CI_1 C2
    refine rOf (fun R9 hR9 => xCall (N := 2) (M2 := m_L_law) (pc2 := 412) (ls2 := [some (eR 0), some (eR 1), some (eR 70), some (eR 81), some (eI i)]) (st2 := []) (y := m_L_truncateInput) (as := [some (eR 1), some (eI (f (j + 1))), some (eR 81)]) (w2 := (V, d)) rfl q2 hR9) ?_
    refine rOf (fun R9 hR9 => xLdV (N := 7) (M2 := m_L_law) (pc2 := 423) (r := 0) (ls2 := [some (eR 0), some (eR 1), some (eR 70), some (eR 81), some (eI i), some (eI t)]) (st2 := [eR 70]) (V := V2) (d := d2) (i := i + 1) (k := j + 1) (ok := eOkI) (mk := fun x => .inl x) rfl h02 rfl (wr_nat (by omega) (by omega)) (by omega) hR9) ?_
    obtain ⟨V3, b3, q3, M3, hb3, fm3⟩ := kmV (d := d2) hn (MI_fr (fun k hk => fr2.2 k (by omega)) M) rfl
    have h03 := (fm3.2 0 (by omega)).trans h02
    have h13 := (fm3.2 1 (by omega)).trans h12
    have h813 := (fm3.2 81 (by omega)).trans o2
    obtain ⟨P3, h703⟩ := MI_70 M3
    have C3 := CI_fr (Nat.le_of_eq fm3.1.symm) (fun k hk => fm3.2 k (by omega)) C2
    refine rOf (fun R9 hR9 => xCallA1 (N := 1) (M2 := m_L_law) (pc2 := 424) (y := m_M_truncateInput) (n := 2) (ls2 := [some (eR 0), some (eR 1), some (eR 70), some (eR 81), some (eI i), some (eI t)]) (st2 := []) (st9 := [eI (f (j + 1)), eR 70]) (V := V2) (d := d2) (r := 70) (bs := [eI (f (j + 1))]) rfl rfl h702 rfl q3 hR9) ?_
    refine rOf (fun R9 hR9 => xCallA1 (N := 3) (M2 := m_L_law) (pc2 := 430) (y := m_M_thrown) (n := 1) (ls2 := [some (eR 0), some (eR 1), some (eR 70), some (eR 81), some (eI i), some (eI t), some (eI b3)]) (st2 := []) (st9 := [eR 70]) (V := V3) (d := d2) (r := 70) (bs := []) rfl rfl h703 rfl (thrV M3) hR9) ?_
    refine rOf (fun R9 hR9 => xEqT (N := 2) (x := t) (y := t) (A := ev m_L_law 440 [some (eR 0), some (eR 1), some (eR 70), some (eR 81), some (eI i), some (eI t), some (eI b3)] [] (V3, d2)) (B := ev m_L_law 438 [some (eR 0), some (eR 1), some (eR 70), some (eR 81), some (eI i), some (eI t), some (eI b3)] [] (V3, d2)) rfl rfl rfl rfl hR9) ?_
    refine rOf (fun R9 hR9 => xEqT (N := 2) (x := t) (y := 0) (A := ev m_L_law 445 [some (eR 0), some (eR 1), some (eR 70), some (eR 81), some (eI i), some (eI t), some (eI b3)] [] (V3, d2)) (B := ev m_L_law 457 [some (eR 0), some (eR 1), some (eR 70), some (eR 81), some (eI i), some (eI t), some (eI b3)] [] (V3, d2)) rfl (wr_id (by omega) (by omega)) (show wr 0 = 0 by decide) (by omega) hR9) ?_
    refine rOf (fun R9 hR9 => xLdV (N := 3) (M2 := m_L_law) (pc2 := 447) (r := 81) (ls2 := [some (eR 0), some (eR 1), some (eR 70), some (eR 81), some (eI i), some (eI t), some (eI b3)]) (st2 := []) (V := V3) (d := d2) (i := 0) (k := 0) (ok := eOkJ) (mk := fun x => .inr (.inr (.inl x))) rfl h813 rfl (show wr 0 = ((0 : Nat) : Int) by decide) (by omega) hR9) ?_
    refine rOf (fun R9 hR9 => xEqT (N := 4) (x := bLcmp (ot2 0) (wr b3)) (y := 0) (A := ev m_L_law 457 [some (eR 0), some (eR 1), some (eR 70), some (eR 81), some (eI i), some (eI t), some (eI b3)] [] (V3, d2)) (B := ev m_L_law 455 [some (eR 0), some (eR 1), some (eR 70), some (eR 81), some (eI i), some (eI t), some (eI b3)] [] (V3, d2)) rfl (by rw [t2 ht0, hb3 ht0]; exact wrcmp) (show wr 0 = 0 by decide) rfl hR9) ?_
    refine rOf (fun R9 hR9 => xSeg (N := 1) (r := ev m_L_law 3064 [some (eR 0), some (eR 1), some (eR 70), some (eR 81), some (eI i), some (eI t), some (eI b3)] [] (V3, d2)) rfl hR9) ?_
    refine rOf (fun R9 hR9 => xTk 5 (by rfl) rfl hR9) ?_
    exact hK V3 d2 ⟨a2, x2, t, ot2, C3, M3, h03, h813⟩ dl2
  · refine rOf (fun R9 hR9 => xLdV (N := 6) (M2 := m_L_law) (pc2 := 410) (r := 0) (ls2 := [some (eR 0), some (eR 1), some (eR 70), some (eR 81), some (eI i)]) (st2 := [eR 1]) (V := V) (d := d) (i := i + 1) (k := j + 1) (ok := eOkI) (mk := fun x => .inl x) rfl h0 rfl (wr_nat (by omega) (by omega)) (by omega) hR9) ?_
    obtain ⟨V2, ot2, d2, q2, C2, o2, t2, fr2, dl2⟩ := hq V d ot C h81
    have h02 := (fr2.2 0 (by omega)).trans h0
    have h702 := (fr2.2 70 (by omega)).trans h70
    obtain ⟨P2, h12⟩ := CI_1 C2
    refine rOf (fun R9 hR9 => xCall (N := 2) (M2 := m_L_law) (pc2 := 412) (ls2 := [some (eR 0), some (eR 1), some (eR 70), some (eR 81), some (eI i)]) (st2 := []) (y := m_L_truncateInput) (as := [some (eR 1), some (eI (f (j + 1))), some (eR 81)]) (w2 := (V, d)) rfl q2 hR9) ?_
    refine rOf (fun R9 hR9 => xLdV (N := 7) (M2 := m_L_law) (pc2 := 423) (r := 0) (ls2 := [some (eR 0), some (eR 1), some (eR 70), some (eR 81), some (eI i), some (eI t)]) (st2 := [eR 70]) (V := V2) (d := d2) (i := i + 1) (k := j + 1) (ok := eOkI) (mk := fun x => .inl x) rfl h02 rfl (wr_nat (by omega) (by omega)) (by omega) hR9) ?_
    obtain ⟨V3, b3, q3, M3, hb3, fm3⟩ := kmV (d := d2) hn (MI_fr (fun k hk => fr2.2 k (by omega)) M) rfl
    have h03 := (fm3.2 0 (by omega)).trans h02
    have h13 := (fm3.2 1 (by omega)).trans h12
    have h813 := (fm3.2 81 (by omega)).trans o2
    obtain ⟨P3, h703⟩ := MI_70 M3
    have C3 := CI_fr (Nat.le_of_eq fm3.1.symm) (fun k hk => fm3.2 k (by omega)) C2
    refine rOf (fun R9 hR9 => xCallA1 (N := 1) (M2 := m_L_law) (pc2 := 424) (y := m_M_truncateInput) (n := 2) (ls2 := [some (eR 0), some (eR 1), some (eR 70), some (eR 81), some (eI i), some (eI t)]) (st2 := []) (st9 := [eI (f (j + 1)), eR 70]) (V := V2) (d := d2) (r := 70) (bs := [eI (f (j + 1))]) rfl rfl h702 rfl q3 hR9) ?_
    refine rOf (fun R9 hR9 => xCallA1 (N := 3) (M2 := m_L_law) (pc2 := 430) (y := m_M_thrown) (n := 1) (ls2 := [some (eR 0), some (eR 1), some (eR 70), some (eR 81), some (eI i), some (eI t), some (eI b3)]) (st2 := []) (st9 := [eR 70]) (V := V3) (d := d2) (r := 70) (bs := []) rfl rfl h703 rfl (thrV M3) hR9) ?_
    refine rOf (fun R9 hR9 => xEqT (N := 2) (x := t) (y := t) (A := ev m_L_law 440 [some (eR 0), some (eR 1), some (eR 70), some (eR 81), some (eI i), some (eI t), some (eI b3)] [] (V3, d2)) (B := ev m_L_law 438 [some (eR 0), some (eR 1), some (eR 70), some (eR 81), some (eI i), some (eI t), some (eI b3)] [] (V3, d2)) rfl rfl rfl rfl hR9) ?_
    refine rOf (fun R9 hR9 => xEqF (N := 2) (x := t) (y := 0) (A := ev m_L_law 445 [some (eR 0), some (eR 1), some (eR 70), some (eR 81), some (eI i), some (eI t), some (eI b3)] [] (V3, d2)) (B := ev m_L_law 457 [some (eR 0), some (eR 1), some (eR 70), some (eR 81), some (eI i), some (eI t), some (eI b3)] [] (V3, d2)) rfl (wr_id (by omega) (by omega)) (show wr 0 = 0 by decide) (by omega) hR9) ?_
    refine rOf (fun R9 hR9 => xSeg (N := 1) (r := ev m_L_law 3064 [some (eR 0), some (eR 1), some (eR 70), some (eR 81), some (eI i), some (eI t), some (eI b3)] [] (V3, d2)) rfl hR9) ?_
    refine rOf (fun R9 hR9 => xTk 5 (by rfl) rfl hR9) ?_
    exact hK V3 d2 ⟨a2, x2, t, ot2, C3, M3, h03, h813⟩ dl2
theorem k_outputByte {V : List eC} {d : Nat × Nat} {L j : Nat} {f : Nat → Int} {i : Int} {Q : (Option eV ⊕ Nat) × eW → Prop} (hi : i = (j : Int)) (hj : j + 6 ≤ L) (hL : L ≤ 3072) (hr : ∀ k, -2147483648 ≤ f k ∧ f k < 2147483648) (h : LI V L f) (hK : ∀ V' d', LI V' L f → dl d d' → Rs (ev m_L_law 3064 [some (eR 0), some (eR 1), some (eR 70), some (eR 81), some (eI i)] [] (V', d')) Q) : Rs (ev m_L_law 2852 [some (eR 0), some (eR 1), some (eR 70), some (eR 81), some (eI i)] [] (V, d)) Q := by
  obtain ⟨a, x, t0, ot, C, M, h0, h81⟩ := h
  obtain ⟨P1, h1⟩ := CI_1 C
  obtain ⟨P70, h70⟩ := MI_70 M
  have hI : iA a := CI_I C
  obtain ⟨a2, x2, t, v, ht, hq, hn⟩ := u_outputByte (a := a) (X := x) (hr (j + 1))
  by_cases ht0 : t = 0
  · refine rOf (fun R9 hR9 => xLdV (N := 6) (M2 := m_L_law) (pc2 := 2858) (r := 0) (ls2 := [some (eR 0), some (eR 1), some (eR 70), some (eR 81), some (eI i)]) (st2 := [eR 1]) (V := V) (d := d) (i := i + 1) (k := j + 1) (ok := eOkI) (mk := fun x => .inl x) rfl h0 rfl (wr_nat (by omega) (by omega)) (by omega) hR9) ?_
    obtain ⟨V2, ot2, d2, q2, C2, o2, t2, fr2, dl2⟩ := hq V d ot C h81
    have h02 := (fr2.2 0 (by omega)).trans h0
    have h702 := (fr2.2 70 (by omega)).trans h70
    obtain ⟨P2, h12⟩ := CI_1 C2
    refine rOf (fun R9 hR9 => xCall (N := 2) (M2 := m_L_law) (pc2 := 2860) (ls2 := [some (eR 0), some (eR 1), some (eR 70), some (eR 81), some (eI i)]) (st2 := []) (y := m_L_outputByte) (as := [some (eR 1), some (eI (f (j + 1))), some (eR 81)]) (w2 := (V, d)) rfl q2 hR9) ?_
    refine rOf (fun R9 hR9 => xLdV (N := 7) (M2 := m_L_law) (pc2 := 2871) (r := 0) (ls2 := [some (eR 0), some (eR 1), some (eR 70), some (eR 81), some (eI i), some (eI t)]) (st2 := [eR 70]) (V := V2) (d := d2) (i := i + 1) (k := j + 1) (ok := eOkI) (mk := fun x => .inl x) rfl h02 rfl (wr_nat (by omega) (by omega)) (by omega) hR9) ?_
    obtain ⟨V3, b3, q3, M3, hb3, fm3⟩ := kmV (d := d2) hn (MI_fr (fun k hk => fr2.2 k (by omega)) M) rfl
    have h03 := (fm3.2 0 (by omega)).trans h02
    have h13 := (fm3.2 1 (by omega)).trans h12
    have h813 := (fm3.2 81 (by omega)).trans o2
    obtain ⟨P3, h703⟩ := MI_70 M3
    have C3 := CI_fr (Nat.le_of_eq fm3.1.symm) (fun k hk => fm3.2 k (by omega)) C2
    refine rOf (fun R9 hR9 => xCallA1 (N := 1) (M2 := m_L_law) (pc2 := 2872) (y := m_M_outputByte) (n := 2) (ls2 := [some (eR 0), some (eR 1), some (eR 70), some (eR 81), some (eI i), some (eI t)]) (st2 := []) (st9 := [eI (f (j + 1)), eR 70]) (V := V2) (d := d2) (r := 70) (bs := [eI (f (j + 1))]) rfl rfl h702 rfl q3 hR9) ?_
    refine rOf (fun R9 hR9 => xCallA1 (N := 3) (M2 := m_L_law) (pc2 := 2878) (y := m_M_thrown) (n := 1) (ls2 := [some (eR 0), some (eR 1), some (eR 70), some (eR 81), some (eI i), some (eI t), some (eI b3)]) (st2 := []) (st9 := [eR 70]) (V := V3) (d := d2) (r := 70) (bs := []) rfl rfl h703 rfl (thrV M3) hR9) ?_
    refine rOf (fun R9 hR9 => xEqT (N := 2) (x := t) (y := t) (A := ev m_L_law 2888 [some (eR 0), some (eR 1), some (eR 70), some (eR 81), some (eI i), some (eI t), some (eI b3)] [] (V3, d2)) (B := ev m_L_law 2886 [some (eR 0), some (eR 1), some (eR 70), some (eR 81), some (eI i), some (eI t), some (eI b3)] [] (V3, d2)) rfl rfl rfl rfl hR9) ?_
    refine rOf (fun R9 hR9 => xEqT (N := 2) (x := t) (y := 0) (A := ev m_L_law 2893 [some (eR 0), some (eR 1), some (eR 70), some (eR 81), some (eI i), some (eI t), some (eI b3)] [] (V3, d2)) (B := ev m_L_law 2905 [some (eR 0), some (eR 1), some (eR 70), some (eR 81), some (eI i), some (eI t), some (eI b3)] [] (V3, d2)) rfl (wr_id (by omega) (by omega)) (show wr 0 = 0 by decide) (by omega) hR9) ?_
    refine rOf (fun R9 hR9 => xLdV (N := 3) (M2 := m_L_law) (pc2 := 2895) (r := 81) (ls2 := [some (eR 0), some (eR 1), some (eR 70), some (eR 81), some (eI i), some (eI t), some (eI b3)]) (st2 := []) (V := V3) (d := d2) (i := 0) (k := 0) (ok := eOkJ) (mk := fun x => .inr (.inr (.inl x))) rfl h813 rfl (show wr 0 = ((0 : Nat) : Int) by decide) (by omega) hR9) ?_
    refine rOf (fun R9 hR9 => xEqT (N := 4) (x := bLcmp (ot2 0) (wr b3)) (y := 0) (A := ev m_L_law 2905 [some (eR 0), some (eR 1), some (eR 70), some (eR 81), some (eI i), some (eI t), some (eI b3)] [] (V3, d2)) (B := ev m_L_law 2903 [some (eR 0), some (eR 1), some (eR 70), some (eR 81), some (eI i), some (eI t), some (eI b3)] [] (V3, d2)) rfl (by rw [t2 ht0, hb3 ht0]; exact wrcmp) (show wr 0 = 0 by decide) rfl hR9) ?_
    refine rOf (fun R9 hR9 => xSeg (N := 1) (r := ev m_L_law 3064 [some (eR 0), some (eR 1), some (eR 70), some (eR 81), some (eI i), some (eI t), some (eI b3)] [] (V3, d2)) rfl hR9) ?_
    refine rOf (fun R9 hR9 => xTk 5 (by rfl) rfl hR9) ?_
    exact hK V3 d2 ⟨a2, x2, t, ot2, C3, M3, h03, h813⟩ dl2
  · refine rOf (fun R9 hR9 => xLdV (N := 6) (M2 := m_L_law) (pc2 := 2858) (r := 0) (ls2 := [some (eR 0), some (eR 1), some (eR 70), some (eR 81), some (eI i)]) (st2 := [eR 1]) (V := V) (d := d) (i := i + 1) (k := j + 1) (ok := eOkI) (mk := fun x => .inl x) rfl h0 rfl (wr_nat (by omega) (by omega)) (by omega) hR9) ?_
    obtain ⟨V2, ot2, d2, q2, C2, o2, t2, fr2, dl2⟩ := hq V d ot C h81
    have h02 := (fr2.2 0 (by omega)).trans h0
    have h702 := (fr2.2 70 (by omega)).trans h70
    obtain ⟨P2, h12⟩ := CI_1 C2
    refine rOf (fun R9 hR9 => xCall (N := 2) (M2 := m_L_law) (pc2 := 2860) (ls2 := [some (eR 0), some (eR 1), some (eR 70), some (eR 81), some (eI i)]) (st2 := []) (y := m_L_outputByte) (as := [some (eR 1), some (eI (f (j + 1))), some (eR 81)]) (w2 := (V, d)) rfl q2 hR9) ?_
    refine rOf (fun R9 hR9 => xLdV (N := 7) (M2 := m_L_law) (pc2 := 2871) (r := 0) (ls2 := [some (eR 0), some (eR 1), some (eR 70), some (eR 81), some (eI i), some (eI t)]) (st2 := [eR 70]) (V := V2) (d := d2) (i := i + 1) (k := j + 1) (ok := eOkI) (mk := fun x => .inl x) rfl h02 rfl (wr_nat (by omega) (by omega)) (by omega) hR9) ?_
    obtain ⟨V3, b3, q3, M3, hb3, fm3⟩ := kmV (d := d2) hn (MI_fr (fun k hk => fr2.2 k (by omega)) M) rfl
    have h03 := (fm3.2 0 (by omega)).trans h02
    have h13 := (fm3.2 1 (by omega)).trans h12
    have h813 := (fm3.2 81 (by omega)).trans o2
    obtain ⟨P3, h703⟩ := MI_70 M3
    have C3 := CI_fr (Nat.le_of_eq fm3.1.symm) (fun k hk => fm3.2 k (by omega)) C2
    refine rOf (fun R9 hR9 => xCallA1 (N := 1) (M2 := m_L_law) (pc2 := 2872) (y := m_M_outputByte) (n := 2) (ls2 := [some (eR 0), some (eR 1), some (eR 70), some (eR 81), some (eI i), some (eI t)]) (st2 := []) (st9 := [eI (f (j + 1)), eR 70]) (V := V2) (d := d2) (r := 70) (bs := [eI (f (j + 1))]) rfl rfl h702 rfl q3 hR9) ?_
    refine rOf (fun R9 hR9 => xCallA1 (N := 3) (M2 := m_L_law) (pc2 := 2878) (y := m_M_thrown) (n := 1) (ls2 := [some (eR 0), some (eR 1), some (eR 70), some (eR 81), some (eI i), some (eI t), some (eI b3)]) (st2 := []) (st9 := [eR 70]) (V := V3) (d := d2) (r := 70) (bs := []) rfl rfl h703 rfl (thrV M3) hR9) ?_
    refine rOf (fun R9 hR9 => xEqT (N := 2) (x := t) (y := t) (A := ev m_L_law 2888 [some (eR 0), some (eR 1), some (eR 70), some (eR 81), some (eI i), some (eI t), some (eI b3)] [] (V3, d2)) (B := ev m_L_law 2886 [some (eR 0), some (eR 1), some (eR 70), some (eR 81), some (eI i), some (eI t), some (eI b3)] [] (V3, d2)) rfl rfl rfl rfl hR9) ?_
    refine rOf (fun R9 hR9 => xEqF (N := 2) (x := t) (y := 0) (A := ev m_L_law 2893 [some (eR 0), some (eR 1), some (eR 70), some (eR 81), some (eI i), some (eI t), some (eI b3)] [] (V3, d2)) (B := ev m_L_law 2905 [some (eR 0), some (eR 1), some (eR 70), some (eR 81), some (eI i), some (eI t), some (eI b3)] [] (V3, d2)) rfl (wr_id (by omega) (by omega)) (show wr 0 = 0 by decide) (by omega) hR9) ?_
    refine rOf (fun R9 hR9 => xSeg (N := 1) (r := ev m_L_law 3064 [some (eR 0), some (eR 1), some (eR 70), some (eR 81), some (eI i), some (eI t), some (eI b3)] [] (V3, d2)) rfl hR9) ?_
    refine rOf (fun R9 hR9 => xTk 5 (by rfl) rfl hR9) ?_
    exact hK V3 d2 ⟨a2, x2, t, ot2, C3, M3, h03, h813⟩ dl2
theorem k_writeRow {V : List eC} {d : Nat × Nat} {L j : Nat} {f : Nat → Int} {i : Int} {Q : (Option eV ⊕ Nat) × eW → Prop} (hi : i = (j : Int)) (hj : j + 6 ≤ L) (hL : L ≤ 3072) (hr : ∀ k, -2147483648 ≤ f k ∧ f k < 2147483648) (h : LI V L f) (hK : ∀ V' d', LI V' L f → dl d d' → Rs (ev m_L_law 3064 [some (eR 0), some (eR 1), some (eR 70), some (eR 81), some (eI i)] [] (V', d')) Q) : Rs (ev m_L_law 2796 [some (eR 0), some (eR 1), some (eR 70), some (eR 81), some (eI i)] [] (V, d)) Q := by
  obtain ⟨a, x, t0, ot, C, M, h0, h81⟩ := h
  obtain ⟨P1, h1⟩ := CI_1 C
  obtain ⟨P70, h70⟩ := MI_70 M
  have hI : iA a := CI_I C
  obtain ⟨a2, x2, t, v, ht, hq, hn⟩ := u_writeRow (a := a) (X := x) (hr (j + 1))
  by_cases ht0 : t = 0
  · refine rOf (fun R9 hR9 => xLdV (N := 6) (M2 := m_L_law) (pc2 := 2802) (r := 0) (ls2 := [some (eR 0), some (eR 1), some (eR 70), some (eR 81), some (eI i)]) (st2 := [eR 1]) (V := V) (d := d) (i := i + 1) (k := j + 1) (ok := eOkI) (mk := fun x => .inl x) rfl h0 rfl (wr_nat (by omega) (by omega)) (by omega) hR9) ?_
    obtain ⟨V2, ot2, d2, q2, C2, o2, t2, fr2, dl2⟩ := hq V d ot C h81
    have h02 := (fr2.2 0 (by omega)).trans h0
    have h702 := (fr2.2 70 (by omega)).trans h70
    obtain ⟨P2, h12⟩ := CI_1 C2
    refine rOf (fun R9 hR9 => xCall (N := 2) (M2 := m_L_law) (pc2 := 2804) (ls2 := [some (eR 0), some (eR 1), some (eR 70), some (eR 81), some (eI i)]) (st2 := []) (y := m_L_writeRow) (as := [some (eR 1), some (eI (f (j + 1))), some (eR 81)]) (w2 := (V, d)) rfl q2 hR9) ?_
    refine rOf (fun R9 hR9 => xLdV (N := 7) (M2 := m_L_law) (pc2 := 2815) (r := 0) (ls2 := [some (eR 0), some (eR 1), some (eR 70), some (eR 81), some (eI i), some (eI t)]) (st2 := [eR 70]) (V := V2) (d := d2) (i := i + 1) (k := j + 1) (ok := eOkI) (mk := fun x => .inl x) rfl h02 rfl (wr_nat (by omega) (by omega)) (by omega) hR9) ?_
    obtain ⟨V3, b3, q3, M3, hb3, fm3⟩ := kmV (d := d2) hn (MI_fr (fun k hk => fr2.2 k (by omega)) M) rfl
    have h03 := (fm3.2 0 (by omega)).trans h02
    have h13 := (fm3.2 1 (by omega)).trans h12
    have h813 := (fm3.2 81 (by omega)).trans o2
    obtain ⟨P3, h703⟩ := MI_70 M3
    have C3 := CI_fr (Nat.le_of_eq fm3.1.symm) (fun k hk => fm3.2 k (by omega)) C2
    refine rOf (fun R9 hR9 => xCallA1 (N := 1) (M2 := m_L_law) (pc2 := 2816) (y := m_M_writeRow) (n := 2) (ls2 := [some (eR 0), some (eR 1), some (eR 70), some (eR 81), some (eI i), some (eI t)]) (st2 := []) (st9 := [eI (f (j + 1)), eR 70]) (V := V2) (d := d2) (r := 70) (bs := [eI (f (j + 1))]) rfl rfl h702 rfl q3 hR9) ?_
    refine rOf (fun R9 hR9 => xCallA1 (N := 3) (M2 := m_L_law) (pc2 := 2822) (y := m_M_thrown) (n := 1) (ls2 := [some (eR 0), some (eR 1), some (eR 70), some (eR 81), some (eI i), some (eI t), some (eI b3)]) (st2 := []) (st9 := [eR 70]) (V := V3) (d := d2) (r := 70) (bs := []) rfl rfl h703 rfl (thrV M3) hR9) ?_
    refine rOf (fun R9 hR9 => xEqT (N := 2) (x := t) (y := t) (A := ev m_L_law 2832 [some (eR 0), some (eR 1), some (eR 70), some (eR 81), some (eI i), some (eI t), some (eI b3)] [] (V3, d2)) (B := ev m_L_law 2830 [some (eR 0), some (eR 1), some (eR 70), some (eR 81), some (eI i), some (eI t), some (eI b3)] [] (V3, d2)) rfl rfl rfl rfl hR9) ?_
    refine rOf (fun R9 hR9 => xEqT (N := 2) (x := t) (y := 0) (A := ev m_L_law 2837 [some (eR 0), some (eR 1), some (eR 70), some (eR 81), some (eI i), some (eI t), some (eI b3)] [] (V3, d2)) (B := ev m_L_law 2849 [some (eR 0), some (eR 1), some (eR 70), some (eR 81), some (eI i), some (eI t), some (eI b3)] [] (V3, d2)) rfl (wr_id (by omega) (by omega)) (show wr 0 = 0 by decide) (by omega) hR9) ?_
    refine rOf (fun R9 hR9 => xLdV (N := 3) (M2 := m_L_law) (pc2 := 2839) (r := 81) (ls2 := [some (eR 0), some (eR 1), some (eR 70), some (eR 81), some (eI i), some (eI t), some (eI b3)]) (st2 := []) (V := V3) (d := d2) (i := 0) (k := 0) (ok := eOkJ) (mk := fun x => .inr (.inr (.inl x))) rfl h813 rfl (show wr 0 = ((0 : Nat) : Int) by decide) (by omega) hR9) ?_
    refine rOf (fun R9 hR9 => xEqT (N := 4) (x := bLcmp (ot2 0) (wr b3)) (y := 0) (A := ev m_L_law 2849 [some (eR 0), some (eR 1), some (eR 70), some (eR 81), some (eI i), some (eI t), some (eI b3)] [] (V3, d2)) (B := ev m_L_law 2847 [some (eR 0), some (eR 1), some (eR 70), some (eR 81), some (eI i), some (eI t), some (eI b3)] [] (V3, d2)) rfl (by rw [t2 ht0, hb3 ht0]; exact wrcmp) (show wr 0 = 0 by decide) rfl hR9) ?_
    refine rOf (fun R9 hR9 => xSeg (N := 1) (r := ev m_L_law 3064 [some (eR 0), some (eR 1), some (eR 70), some (eR 81), some (eI i), some (eI t), some (eI b3)] [] (V3, d2)) rfl hR9) ?_
    refine rOf (fun R9 hR9 => xTk 5 (by rfl) rfl hR9) ?_
    exact hK V3 d2 ⟨a2, x2, t, ot2, C3, M3, h03, h813⟩ dl2
  · refine rOf (fun R9 hR9 => xLdV (N := 6) (M2 := m_L_law) (pc2 := 2802) (r := 0) (ls2 := [some (eR 0), some (eR 1), some (eR 70), some (eR 81), some (eI i)]) (st2 := [eR 1]) (V := V) (d := d) (i := i + 1) (k := j + 1) (ok := eOkI) (mk := fun x => .inl x) rfl h0 rfl (wr_nat (by omega) (by omega)) (by omega) hR9) ?_
    obtain ⟨V2, ot2, d2, q2, C2, o2, t2, fr2, dl2⟩ := hq V d ot C h81
    have h02 := (fr2.2 0 (by omega)).trans h0
    have h702 := (fr2.2 70 (by omega)).trans h70
    obtain ⟨P2, h12⟩ := CI_1 C2
    refine rOf (fun R9 hR9 => xCall (N := 2) (M2 := m_L_law) (pc2 := 2804) (ls2 := [some (eR 0), some (eR 1), some (eR 70), some (eR 81), some (eI i)]) (st2 := []) (y := m_L_writeRow) (as := [some (eR 1), some (eI (f (j + 1))), some (eR 81)]) (w2 := (V, d)) rfl q2 hR9) ?_
    refine rOf (fun R9 hR9 => xLdV (N := 7) (M2 := m_L_law) (pc2 := 2815) (r := 0) (ls2 := [some (eR 0), some (eR 1), some (eR 70), some (eR 81), some (eI i), some (eI t)]) (st2 := [eR 70]) (V := V2) (d := d2) (i := i + 1) (k := j + 1) (ok := eOkI) (mk := fun x => .inl x) rfl h02 rfl (wr_nat (by omega) (by omega)) (by omega) hR9) ?_
    obtain ⟨V3, b3, q3, M3, hb3, fm3⟩ := kmV (d := d2) hn (MI_fr (fun k hk => fr2.2 k (by omega)) M) rfl
    have h03 := (fm3.2 0 (by omega)).trans h02
    have h13 := (fm3.2 1 (by omega)).trans h12
    have h813 := (fm3.2 81 (by omega)).trans o2
    obtain ⟨P3, h703⟩ := MI_70 M3
    have C3 := CI_fr (Nat.le_of_eq fm3.1.symm) (fun k hk => fm3.2 k (by omega)) C2
    refine rOf (fun R9 hR9 => xCallA1 (N := 1) (M2 := m_L_law) (pc2 := 2816) (y := m_M_writeRow) (n := 2) (ls2 := [some (eR 0), some (eR 1), some (eR 70), some (eR 81), some (eI i), some (eI t)]) (st2 := []) (st9 := [eI (f (j + 1)), eR 70]) (V := V2) (d := d2) (r := 70) (bs := [eI (f (j + 1))]) rfl rfl h702 rfl q3 hR9) ?_
    refine rOf (fun R9 hR9 => xCallA1 (N := 3) (M2 := m_L_law) (pc2 := 2822) (y := m_M_thrown) (n := 1) (ls2 := [some (eR 0), some (eR 1), some (eR 70), some (eR 81), some (eI i), some (eI t), some (eI b3)]) (st2 := []) (st9 := [eR 70]) (V := V3) (d := d2) (r := 70) (bs := []) rfl rfl h703 rfl (thrV M3) hR9) ?_
    refine rOf (fun R9 hR9 => xEqT (N := 2) (x := t) (y := t) (A := ev m_L_law 2832 [some (eR 0), some (eR 1), some (eR 70), some (eR 81), some (eI i), some (eI t), some (eI b3)] [] (V3, d2)) (B := ev m_L_law 2830 [some (eR 0), some (eR 1), some (eR 70), some (eR 81), some (eI i), some (eI t), some (eI b3)] [] (V3, d2)) rfl rfl rfl rfl hR9) ?_
    refine rOf (fun R9 hR9 => xEqF (N := 2) (x := t) (y := 0) (A := ev m_L_law 2837 [some (eR 0), some (eR 1), some (eR 70), some (eR 81), some (eI i), some (eI t), some (eI b3)] [] (V3, d2)) (B := ev m_L_law 2849 [some (eR 0), some (eR 1), some (eR 70), some (eR 81), some (eI i), some (eI t), some (eI b3)] [] (V3, d2)) rfl (wr_id (by omega) (by omega)) (show wr 0 = 0 by decide) (by omega) hR9) ?_
    refine rOf (fun R9 hR9 => xSeg (N := 1) (r := ev m_L_law 3064 [some (eR 0), some (eR 1), some (eR 70), some (eR 81), some (eI i), some (eI t), some (eI b3)] [] (V3, d2)) rfl hR9) ?_
    refine rOf (fun R9 hR9 => xTk 5 (by rfl) rfl hR9) ?_
    exact hK V3 d2 ⟨a2, x2, t, ot2, C3, M3, h03, h813⟩ dl2
theorem k_appendInput {V : List eC} {d : Nat × Nat} {L j : Nat} {f : Nat → Int} {i : Int} {Q : (Option eV ⊕ Nat) × eW → Prop} (hi : i = (j : Int)) (hj : j + 6 ≤ L) (hL : L ≤ 3072) (hr : ∀ k, -2147483648 ≤ f k ∧ f k < 2147483648) (h : LI V L f) (hK : ∀ V' d', LI V' L f → dl d d' → Rs (ev m_L_law 3064 [some (eR 0), some (eR 1), some (eR 70), some (eR 81), some (eI i)] [] (V', d')) Q) : Rs (ev m_L_law 300 [some (eR 0), some (eR 1), some (eR 70), some (eR 81), some (eI i)] [] (V, d)) Q := by
  obtain ⟨a, x, t0, ot, C, M, h0, h81⟩ := h
  obtain ⟨P1, h1⟩ := CI_1 C
  obtain ⟨P70, h70⟩ := MI_70 M
  have hI : iA a := CI_I C
  obtain ⟨a2, x2, t, v, ht, hq, hn⟩ := u_appendInput (a := a) (X := x) (hr (j + 1)) (hr (j + 2)) (hr (j + 3)) (hr (j + 4)) (hr (j + 5))
  by_cases ht0 : t = 0
  · refine rOf (fun R9 hR9 => xLdV (N := 6) (M2 := m_L_law) (pc2 := 306) (r := 0) (ls2 := [some (eR 0), some (eR 1), some (eR 70), some (eR 81), some (eI i)]) (st2 := [eR 1]) (V := V) (d := d) (i := i + 1) (k := j + 1) (ok := eOkI) (mk := fun x => .inl x) rfl h0 rfl (wr_nat (by omega) (by omega)) (by omega) hR9) ?_
    refine rOf (fun R9 hR9 => xLdV (N := 5) (M2 := m_L_law) (pc2 := 312) (r := 0) (ls2 := [some (eR 0), some (eR 1), some (eR 70), some (eR 81), some (eI i)]) (st2 := [eI (f (j + 1)), eR 1]) (V := V) (d := d) (i := i + 2) (k := j + 2) (ok := eOkI) (mk := fun x => .inl x) rfl h0 rfl (wr_nat (by omega) (by omega)) (by omega) hR9) ?_
    refine rOf (fun R9 hR9 => xLdV (N := 5) (M2 := m_L_law) (pc2 := 318) (r := 0) (ls2 := [some (eR 0), some (eR 1), some (eR 70), some (eR 81), some (eI i)]) (st2 := [eI (f (j + 2)), eI (f (j + 1)), eR 1]) (V := V) (d := d) (i := i + 3) (k := j + 3) (ok := eOkI) (mk := fun x => .inl x) rfl h0 rfl (wr_nat (by omega) (by omega)) (by omega) hR9) ?_
    refine rOf (fun R9 hR9 => xLdV (N := 5) (M2 := m_L_law) (pc2 := 324) (r := 0) (ls2 := [some (eR 0), some (eR 1), some (eR 70), some (eR 81), some (eI i)]) (st2 := [eI (f (j + 3)), eI (f (j + 2)), eI (f (j + 1)), eR 1]) (V := V) (d := d) (i := i + 4) (k := j + 4) (ok := eOkI) (mk := fun x => .inl x) rfl h0 rfl (wr_nat (by omega) (by omega)) (by omega) hR9) ?_
    refine rOf (fun R9 hR9 => xLdV (N := 5) (M2 := m_L_law) (pc2 := 330) (r := 0) (ls2 := [some (eR 0), some (eR 1), some (eR 70), some (eR 81), some (eI i)]) (st2 := [eI (f (j + 4)), eI (f (j + 3)), eI (f (j + 2)), eI (f (j + 1)), eR 1]) (V := V) (d := d) (i := i + 5) (k := j + 5) (ok := eOkI) (mk := fun x => .inl x) rfl h0 rfl (wr_nat (by omega) (by omega)) (by omega) hR9) ?_
    obtain ⟨V2, ot2, d2, q2, C2, o2, t2, fr2, dl2⟩ := hq V d ot C h81
    have h02 := (fr2.2 0 (by omega)).trans h0
    have h702 := (fr2.2 70 (by omega)).trans h70
    obtain ⟨P2, h12⟩ := CI_1 C2
    refine rOf (fun R9 hR9 => xCall (N := 2) (M2 := m_L_law) (pc2 := 332) (ls2 := [some (eR 0), some (eR 1), some (eR 70), some (eR 81), some (eI i)]) (st2 := []) (y := m_L_appendInput) (as := [some (eR 1), some (eI (f (j + 1))), some (eI (f (j + 2))), some (eI (f (j + 3))), some (eI (f (j + 4))), some (eI (f (j + 5))), some (eR 81)]) (w2 := (V, d)) rfl q2 hR9) ?_
    refine rOf (fun R9 hR9 => xLdV (N := 7) (M2 := m_L_law) (pc2 := 343) (r := 0) (ls2 := [some (eR 0), some (eR 1), some (eR 70), some (eR 81), some (eI i), some (eI t)]) (st2 := [eR 70]) (V := V2) (d := d2) (i := i + 1) (k := j + 1) (ok := eOkI) (mk := fun x => .inl x) rfl h02 rfl (wr_nat (by omega) (by omega)) (by omega) hR9) ?_
    refine rOf (fun R9 hR9 => xLdV (N := 5) (M2 := m_L_law) (pc2 := 349) (r := 0) (ls2 := [some (eR 0), some (eR 1), some (eR 70), some (eR 81), some (eI i), some (eI t)]) (st2 := [eI (f (j + 1)), eR 70]) (V := V2) (d := d2) (i := i + 2) (k := j + 2) (ok := eOkI) (mk := fun x => .inl x) rfl h02 rfl (wr_nat (by omega) (by omega)) (by omega) hR9) ?_
    refine rOf (fun R9 hR9 => xLdV (N := 5) (M2 := m_L_law) (pc2 := 355) (r := 0) (ls2 := [some (eR 0), some (eR 1), some (eR 70), some (eR 81), some (eI i), some (eI t)]) (st2 := [eI (f (j + 2)), eI (f (j + 1)), eR 70]) (V := V2) (d := d2) (i := i + 3) (k := j + 3) (ok := eOkI) (mk := fun x => .inl x) rfl h02 rfl (wr_nat (by omega) (by omega)) (by omega) hR9) ?_
    refine rOf (fun R9 hR9 => xLdV (N := 5) (M2 := m_L_law) (pc2 := 361) (r := 0) (ls2 := [some (eR 0), some (eR 1), some (eR 70), some (eR 81), some (eI i), some (eI t)]) (st2 := [eI (f (j + 3)), eI (f (j + 2)), eI (f (j + 1)), eR 70]) (V := V2) (d := d2) (i := i + 4) (k := j + 4) (ok := eOkI) (mk := fun x => .inl x) rfl h02 rfl (wr_nat (by omega) (by omega)) (by omega) hR9) ?_
    refine rOf (fun R9 hR9 => xLdV (N := 5) (M2 := m_L_law) (pc2 := 367) (r := 0) (ls2 := [some (eR 0), some (eR 1), some (eR 70), some (eR 81), some (eI i), some (eI t)]) (st2 := [eI (f (j + 4)), eI (f (j + 3)), eI (f (j + 2)), eI (f (j + 1)), eR 70]) (V := V2) (d := d2) (i := i + 5) (k := j + 5) (ok := eOkI) (mk := fun x => .inl x) rfl h02 rfl (wr_nat (by omega) (by omega)) (by omega) hR9) ?_
    obtain ⟨V3, b3, q3, M3, hb3, fm3⟩ := kmV (d := d2) hn (MI_fr (fun k hk => fr2.2 k (by omega)) M) rfl
    have h03 := (fm3.2 0 (by omega)).trans h02
    have h13 := (fm3.2 1 (by omega)).trans h12
    have h813 := (fm3.2 81 (by omega)).trans o2
    obtain ⟨P3, h703⟩ := MI_70 M3
    have C3 := CI_fr (Nat.le_of_eq fm3.1.symm) (fun k hk => fm3.2 k (by omega)) C2
    refine rOf (fun R9 hR9 => xCallA1 (N := 1) (M2 := m_L_law) (pc2 := 368) (y := m_M_appendInput) (n := 6) (ls2 := [some (eR 0), some (eR 1), some (eR 70), some (eR 81), some (eI i), some (eI t)]) (st2 := []) (st9 := [eI (f (j + 5)), eI (f (j + 4)), eI (f (j + 3)), eI (f (j + 2)), eI (f (j + 1)), eR 70]) (V := V2) (d := d2) (r := 70) (bs := [eI (f (j + 1)), eI (f (j + 2)), eI (f (j + 3)), eI (f (j + 4)), eI (f (j + 5))]) rfl rfl h702 rfl q3 hR9) ?_
    refine rOf (fun R9 hR9 => xCallA1 (N := 3) (M2 := m_L_law) (pc2 := 374) (y := m_M_thrown) (n := 1) (ls2 := [some (eR 0), some (eR 1), some (eR 70), some (eR 81), some (eI i), some (eI t), some (eI b3)]) (st2 := []) (st9 := [eR 70]) (V := V3) (d := d2) (r := 70) (bs := []) rfl rfl h703 rfl (thrV M3) hR9) ?_
    refine rOf (fun R9 hR9 => xEqT (N := 2) (x := t) (y := t) (A := ev m_L_law 384 [some (eR 0), some (eR 1), some (eR 70), some (eR 81), some (eI i), some (eI t), some (eI b3)] [] (V3, d2)) (B := ev m_L_law 382 [some (eR 0), some (eR 1), some (eR 70), some (eR 81), some (eI i), some (eI t), some (eI b3)] [] (V3, d2)) rfl rfl rfl rfl hR9) ?_
    refine rOf (fun R9 hR9 => xEqT (N := 2) (x := t) (y := 0) (A := ev m_L_law 389 [some (eR 0), some (eR 1), some (eR 70), some (eR 81), some (eI i), some (eI t), some (eI b3)] [] (V3, d2)) (B := ev m_L_law 401 [some (eR 0), some (eR 1), some (eR 70), some (eR 81), some (eI i), some (eI t), some (eI b3)] [] (V3, d2)) rfl (wr_id (by omega) (by omega)) (show wr 0 = 0 by decide) (by omega) hR9) ?_
    refine rOf (fun R9 hR9 => xLdV (N := 3) (M2 := m_L_law) (pc2 := 391) (r := 81) (ls2 := [some (eR 0), some (eR 1), some (eR 70), some (eR 81), some (eI i), some (eI t), some (eI b3)]) (st2 := []) (V := V3) (d := d2) (i := 0) (k := 0) (ok := eOkJ) (mk := fun x => .inr (.inr (.inl x))) rfl h813 rfl (show wr 0 = ((0 : Nat) : Int) by decide) (by omega) hR9) ?_
    refine rOf (fun R9 hR9 => xEqT (N := 4) (x := bLcmp (ot2 0) (wr b3)) (y := 0) (A := ev m_L_law 401 [some (eR 0), some (eR 1), some (eR 70), some (eR 81), some (eI i), some (eI t), some (eI b3)] [] (V3, d2)) (B := ev m_L_law 399 [some (eR 0), some (eR 1), some (eR 70), some (eR 81), some (eI i), some (eI t), some (eI b3)] [] (V3, d2)) rfl (by rw [t2 ht0, hb3 ht0]; exact wrcmp) (show wr 0 = 0 by decide) rfl hR9) ?_
    refine rOf (fun R9 hR9 => xSeg (N := 1) (r := ev m_L_law 3064 [some (eR 0), some (eR 1), some (eR 70), some (eR 81), some (eI i), some (eI t), some (eI b3)] [] (V3, d2)) rfl hR9) ?_
    refine rOf (fun R9 hR9 => xTk 5 (by rfl) rfl hR9) ?_
    exact hK V3 d2 ⟨a2, x2, t, ot2, C3, M3, h03, h813⟩ dl2
  · refine rOf (fun R9 hR9 => xLdV (N := 6) (M2 := m_L_law) (pc2 := 306) (r := 0) (ls2 := [some (eR 0), some (eR 1), some (eR 70), some (eR 81), some (eI i)]) (st2 := [eR 1]) (V := V) (d := d) (i := i + 1) (k := j + 1) (ok := eOkI) (mk := fun x => .inl x) rfl h0 rfl (wr_nat (by omega) (by omega)) (by omega) hR9) ?_
    refine rOf (fun R9 hR9 => xLdV (N := 5) (M2 := m_L_law) (pc2 := 312) (r := 0) (ls2 := [some (eR 0), some (eR 1), some (eR 70), some (eR 81), some (eI i)]) (st2 := [eI (f (j + 1)), eR 1]) (V := V) (d := d) (i := i + 2) (k := j + 2) (ok := eOkI) (mk := fun x => .inl x) rfl h0 rfl (wr_nat (by omega) (by omega)) (by omega) hR9) ?_
    refine rOf (fun R9 hR9 => xLdV (N := 5) (M2 := m_L_law) (pc2 := 318) (r := 0) (ls2 := [some (eR 0), some (eR 1), some (eR 70), some (eR 81), some (eI i)]) (st2 := [eI (f (j + 2)), eI (f (j + 1)), eR 1]) (V := V) (d := d) (i := i + 3) (k := j + 3) (ok := eOkI) (mk := fun x => .inl x) rfl h0 rfl (wr_nat (by omega) (by omega)) (by omega) hR9) ?_
    refine rOf (fun R9 hR9 => xLdV (N := 5) (M2 := m_L_law) (pc2 := 324) (r := 0) (ls2 := [some (eR 0), some (eR 1), some (eR 70), some (eR 81), some (eI i)]) (st2 := [eI (f (j + 3)), eI (f (j + 2)), eI (f (j + 1)), eR 1]) (V := V) (d := d) (i := i + 4) (k := j + 4) (ok := eOkI) (mk := fun x => .inl x) rfl h0 rfl (wr_nat (by omega) (by omega)) (by omega) hR9) ?_
    refine rOf (fun R9 hR9 => xLdV (N := 5) (M2 := m_L_law) (pc2 := 330) (r := 0) (ls2 := [some (eR 0), some (eR 1), some (eR 70), some (eR 81), some (eI i)]) (st2 := [eI (f (j + 4)), eI (f (j + 3)), eI (f (j + 2)), eI (f (j + 1)), eR 1]) (V := V) (d := d) (i := i + 5) (k := j + 5) (ok := eOkI) (mk := fun x => .inl x) rfl h0 rfl (wr_nat (by omega) (by omega)) (by omega) hR9) ?_
    obtain ⟨V2, ot2, d2, q2, C2, o2, t2, fr2, dl2⟩ := hq V d ot C h81
    have h02 := (fr2.2 0 (by omega)).trans h0
    have h702 := (fr2.2 70 (by omega)).trans h70
    obtain ⟨P2, h12⟩ := CI_1 C2
    refine rOf (fun R9 hR9 => xCall (N := 2) (M2 := m_L_law) (pc2 := 332) (ls2 := [some (eR 0), some (eR 1), some (eR 70), some (eR 81), some (eI i)]) (st2 := []) (y := m_L_appendInput) (as := [some (eR 1), some (eI (f (j + 1))), some (eI (f (j + 2))), some (eI (f (j + 3))), some (eI (f (j + 4))), some (eI (f (j + 5))), some (eR 81)]) (w2 := (V, d)) rfl q2 hR9) ?_
    refine rOf (fun R9 hR9 => xLdV (N := 7) (M2 := m_L_law) (pc2 := 343) (r := 0) (ls2 := [some (eR 0), some (eR 1), some (eR 70), some (eR 81), some (eI i), some (eI t)]) (st2 := [eR 70]) (V := V2) (d := d2) (i := i + 1) (k := j + 1) (ok := eOkI) (mk := fun x => .inl x) rfl h02 rfl (wr_nat (by omega) (by omega)) (by omega) hR9) ?_
    refine rOf (fun R9 hR9 => xLdV (N := 5) (M2 := m_L_law) (pc2 := 349) (r := 0) (ls2 := [some (eR 0), some (eR 1), some (eR 70), some (eR 81), some (eI i), some (eI t)]) (st2 := [eI (f (j + 1)), eR 70]) (V := V2) (d := d2) (i := i + 2) (k := j + 2) (ok := eOkI) (mk := fun x => .inl x) rfl h02 rfl (wr_nat (by omega) (by omega)) (by omega) hR9) ?_
    refine rOf (fun R9 hR9 => xLdV (N := 5) (M2 := m_L_law) (pc2 := 355) (r := 0) (ls2 := [some (eR 0), some (eR 1), some (eR 70), some (eR 81), some (eI i), some (eI t)]) (st2 := [eI (f (j + 2)), eI (f (j + 1)), eR 70]) (V := V2) (d := d2) (i := i + 3) (k := j + 3) (ok := eOkI) (mk := fun x => .inl x) rfl h02 rfl (wr_nat (by omega) (by omega)) (by omega) hR9) ?_
    refine rOf (fun R9 hR9 => xLdV (N := 5) (M2 := m_L_law) (pc2 := 361) (r := 0) (ls2 := [some (eR 0), some (eR 1), some (eR 70), some (eR 81), some (eI i), some (eI t)]) (st2 := [eI (f (j + 3)), eI (f (j + 2)), eI (f (j + 1)), eR 70]) (V := V2) (d := d2) (i := i + 4) (k := j + 4) (ok := eOkI) (mk := fun x => .inl x) rfl h02 rfl (wr_nat (by omega) (by omega)) (by omega) hR9) ?_
    refine rOf (fun R9 hR9 => xLdV (N := 5) (M2 := m_L_law) (pc2 := 367) (r := 0) (ls2 := [some (eR 0), some (eR 1), some (eR 70), some (eR 81), some (eI i), some (eI t)]) (st2 := [eI (f (j + 4)), eI (f (j + 3)), eI (f (j + 2)), eI (f (j + 1)), eR 70]) (V := V2) (d := d2) (i := i + 5) (k := j + 5) (ok := eOkI) (mk := fun x => .inl x) rfl h02 rfl (wr_nat (by omega) (by omega)) (by omega) hR9) ?_
    obtain ⟨V3, b3, q3, M3, hb3, fm3⟩ := kmV (d := d2) hn (MI_fr (fun k hk => fr2.2 k (by omega)) M) rfl
    have h03 := (fm3.2 0 (by omega)).trans h02
    have h13 := (fm3.2 1 (by omega)).trans h12
    have h813 := (fm3.2 81 (by omega)).trans o2
    obtain ⟨P3, h703⟩ := MI_70 M3
    have C3 := CI_fr (Nat.le_of_eq fm3.1.symm) (fun k hk => fm3.2 k (by omega)) C2
    refine rOf (fun R9 hR9 => xCallA1 (N := 1) (M2 := m_L_law) (pc2 := 368) (y := m_M_appendInput) (n := 6) (ls2 := [some (eR 0), some (eR 1), some (eR 70), some (eR 81), some (eI i), some (eI t)]) (st2 := []) (st9 := [eI (f (j + 5)), eI (f (j + 4)), eI (f (j + 3)), eI (f (j + 2)), eI (f (j + 1)), eR 70]) (V := V2) (d := d2) (r := 70) (bs := [eI (f (j + 1)), eI (f (j + 2)), eI (f (j + 3)), eI (f (j + 4)), eI (f (j + 5))]) rfl rfl h702 rfl q3 hR9) ?_
    refine rOf (fun R9 hR9 => xCallA1 (N := 3) (M2 := m_L_law) (pc2 := 374) (y := m_M_thrown) (n := 1) (ls2 := [some (eR 0), some (eR 1), some (eR 70), some (eR 81), some (eI i), some (eI t), some (eI b3)]) (st2 := []) (st9 := [eR 70]) (V := V3) (d := d2) (r := 70) (bs := []) rfl rfl h703 rfl (thrV M3) hR9) ?_
    refine rOf (fun R9 hR9 => xEqT (N := 2) (x := t) (y := t) (A := ev m_L_law 384 [some (eR 0), some (eR 1), some (eR 70), some (eR 81), some (eI i), some (eI t), some (eI b3)] [] (V3, d2)) (B := ev m_L_law 382 [some (eR 0), some (eR 1), some (eR 70), some (eR 81), some (eI i), some (eI t), some (eI b3)] [] (V3, d2)) rfl rfl rfl rfl hR9) ?_
    refine rOf (fun R9 hR9 => xEqF (N := 2) (x := t) (y := 0) (A := ev m_L_law 389 [some (eR 0), some (eR 1), some (eR 70), some (eR 81), some (eI i), some (eI t), some (eI b3)] [] (V3, d2)) (B := ev m_L_law 401 [some (eR 0), some (eR 1), some (eR 70), some (eR 81), some (eI i), some (eI t), some (eI b3)] [] (V3, d2)) rfl (wr_id (by omega) (by omega)) (show wr 0 = 0 by decide) (by omega) hR9) ?_
    refine rOf (fun R9 hR9 => xSeg (N := 1) (r := ev m_L_law 3064 [some (eR 0), some (eR 1), some (eR 70), some (eR 81), some (eI i), some (eI t), some (eI b3)] [] (V3, d2)) rfl hR9) ?_
    refine rOf (fun R9 hR9 => xTk 5 (by rfl) rfl hR9) ?_
    exact hK V3 d2 ⟨a2, x2, t, ot2, C3, M3, h03, h813⟩ dl2
theorem k_setLetter {V : List eC} {d : Nat × Nat} {L j : Nat} {f : Nat → Int} {i : Int} {Q : (Option eV ⊕ Nat) × eW → Prop} (hi : i = (j : Int)) (hj : j + 6 ≤ L) (hL : L ≤ 3072) (hr : ∀ k, -2147483648 ≤ f k ∧ f k < 2147483648) (h : LI V L f) (hK : ∀ V' d', LI V' L f → dl d d' → Rs (ev m_L_law 3064 [some (eR 0), some (eR 1), some (eR 70), some (eR 81), some (eI i)] [] (V', d')) Q) : Rs (ev m_L_law 2504 [some (eR 0), some (eR 1), some (eR 70), some (eR 81), some (eI i)] [] (V, d)) Q := by
  obtain ⟨a, x, t0, ot, C, M, h0, h81⟩ := h
  obtain ⟨P1, h1⟩ := CI_1 C
  obtain ⟨P70, h70⟩ := MI_70 M
  have hI : iA a := CI_I C
  obtain ⟨a2, x2, t, v, ht, hq, hn⟩ := u_setLetter (a := a) (X := x) (hr (j + 1)) (hr (j + 2)) (hr (j + 3))
  by_cases ht0 : t = 0
  · refine rOf (fun R9 hR9 => xLdV (N := 6) (M2 := m_L_law) (pc2 := 2510) (r := 0) (ls2 := [some (eR 0), some (eR 1), some (eR 70), some (eR 81), some (eI i)]) (st2 := [eR 1]) (V := V) (d := d) (i := i + 1) (k := j + 1) (ok := eOkI) (mk := fun x => .inl x) rfl h0 rfl (wr_nat (by omega) (by omega)) (by omega) hR9) ?_
    refine rOf (fun R9 hR9 => xLdV (N := 5) (M2 := m_L_law) (pc2 := 2516) (r := 0) (ls2 := [some (eR 0), some (eR 1), some (eR 70), some (eR 81), some (eI i)]) (st2 := [eI (f (j + 1)), eR 1]) (V := V) (d := d) (i := i + 2) (k := j + 2) (ok := eOkI) (mk := fun x => .inl x) rfl h0 rfl (wr_nat (by omega) (by omega)) (by omega) hR9) ?_
    refine rOf (fun R9 hR9 => xLdV (N := 5) (M2 := m_L_law) (pc2 := 2522) (r := 0) (ls2 := [some (eR 0), some (eR 1), some (eR 70), some (eR 81), some (eI i)]) (st2 := [eI (f (j + 2)), eI (f (j + 1)), eR 1]) (V := V) (d := d) (i := i + 3) (k := j + 3) (ok := eOkI) (mk := fun x => .inl x) rfl h0 rfl (wr_nat (by omega) (by omega)) (by omega) hR9) ?_
    obtain ⟨V2, ot2, d2, q2, C2, o2, t2, fr2, dl2⟩ := hq V d ot C h81
    have h02 := (fr2.2 0 (by omega)).trans h0
    have h702 := (fr2.2 70 (by omega)).trans h70
    obtain ⟨P2, h12⟩ := CI_1 C2
    refine rOf (fun R9 hR9 => xCall (N := 2) (M2 := m_L_law) (pc2 := 2524) (ls2 := [some (eR 0), some (eR 1), some (eR 70), some (eR 81), some (eI i)]) (st2 := []) (y := m_L_setLetter) (as := [some (eR 1), some (eI (f (j + 1))), some (eI (f (j + 2))), some (eI (f (j + 3))), some (eR 81)]) (w2 := (V, d)) rfl q2 hR9) ?_
    refine rOf (fun R9 hR9 => xLdV (N := 7) (M2 := m_L_law) (pc2 := 2535) (r := 0) (ls2 := [some (eR 0), some (eR 1), some (eR 70), some (eR 81), some (eI i), some (eI t)]) (st2 := [eR 70]) (V := V2) (d := d2) (i := i + 1) (k := j + 1) (ok := eOkI) (mk := fun x => .inl x) rfl h02 rfl (wr_nat (by omega) (by omega)) (by omega) hR9) ?_
    refine rOf (fun R9 hR9 => xLdV (N := 5) (M2 := m_L_law) (pc2 := 2541) (r := 0) (ls2 := [some (eR 0), some (eR 1), some (eR 70), some (eR 81), some (eI i), some (eI t)]) (st2 := [eI (f (j + 1)), eR 70]) (V := V2) (d := d2) (i := i + 2) (k := j + 2) (ok := eOkI) (mk := fun x => .inl x) rfl h02 rfl (wr_nat (by omega) (by omega)) (by omega) hR9) ?_
    refine rOf (fun R9 hR9 => xLdV (N := 5) (M2 := m_L_law) (pc2 := 2547) (r := 0) (ls2 := [some (eR 0), some (eR 1), some (eR 70), some (eR 81), some (eI i), some (eI t)]) (st2 := [eI (f (j + 2)), eI (f (j + 1)), eR 70]) (V := V2) (d := d2) (i := i + 3) (k := j + 3) (ok := eOkI) (mk := fun x => .inl x) rfl h02 rfl (wr_nat (by omega) (by omega)) (by omega) hR9) ?_
    obtain ⟨V3, b3, q3, M3, hb3, fm3⟩ := kmV (d := d2) hn (MI_fr (fun k hk => fr2.2 k (by omega)) M) rfl
    have h03 := (fm3.2 0 (by omega)).trans h02
    have h13 := (fm3.2 1 (by omega)).trans h12
    have h813 := (fm3.2 81 (by omega)).trans o2
    obtain ⟨P3, h703⟩ := MI_70 M3
    have C3 := CI_fr (Nat.le_of_eq fm3.1.symm) (fun k hk => fm3.2 k (by omega)) C2
    refine rOf (fun R9 hR9 => xCallA1 (N := 1) (M2 := m_L_law) (pc2 := 2548) (y := m_M_setLetter) (n := 4) (ls2 := [some (eR 0), some (eR 1), some (eR 70), some (eR 81), some (eI i), some (eI t)]) (st2 := []) (st9 := [eI (f (j + 3)), eI (f (j + 2)), eI (f (j + 1)), eR 70]) (V := V2) (d := d2) (r := 70) (bs := [eI (f (j + 1)), eI (f (j + 2)), eI (f (j + 3))]) rfl rfl h702 rfl q3 hR9) ?_
    refine rOf (fun R9 hR9 => xCallA1 (N := 3) (M2 := m_L_law) (pc2 := 2554) (y := m_M_thrown) (n := 1) (ls2 := [some (eR 0), some (eR 1), some (eR 70), some (eR 81), some (eI i), some (eI t), some (eI b3)]) (st2 := []) (st9 := [eR 70]) (V := V3) (d := d2) (r := 70) (bs := []) rfl rfl h703 rfl (thrV M3) hR9) ?_
    refine rOf (fun R9 hR9 => xEqT (N := 2) (x := t) (y := t) (A := ev m_L_law 2564 [some (eR 0), some (eR 1), some (eR 70), some (eR 81), some (eI i), some (eI t), some (eI b3)] [] (V3, d2)) (B := ev m_L_law 2562 [some (eR 0), some (eR 1), some (eR 70), some (eR 81), some (eI i), some (eI t), some (eI b3)] [] (V3, d2)) rfl rfl rfl rfl hR9) ?_
    refine rOf (fun R9 hR9 => xEqT (N := 2) (x := t) (y := 0) (A := ev m_L_law 2569 [some (eR 0), some (eR 1), some (eR 70), some (eR 81), some (eI i), some (eI t), some (eI b3)] [] (V3, d2)) (B := ev m_L_law 2581 [some (eR 0), some (eR 1), some (eR 70), some (eR 81), some (eI i), some (eI t), some (eI b3)] [] (V3, d2)) rfl (wr_id (by omega) (by omega)) (show wr 0 = 0 by decide) (by omega) hR9) ?_
    refine rOf (fun R9 hR9 => xLdV (N := 3) (M2 := m_L_law) (pc2 := 2571) (r := 81) (ls2 := [some (eR 0), some (eR 1), some (eR 70), some (eR 81), some (eI i), some (eI t), some (eI b3)]) (st2 := []) (V := V3) (d := d2) (i := 0) (k := 0) (ok := eOkJ) (mk := fun x => .inr (.inr (.inl x))) rfl h813 rfl (show wr 0 = ((0 : Nat) : Int) by decide) (by omega) hR9) ?_
    refine rOf (fun R9 hR9 => xEqT (N := 4) (x := bLcmp (ot2 0) (wr b3)) (y := 0) (A := ev m_L_law 2581 [some (eR 0), some (eR 1), some (eR 70), some (eR 81), some (eI i), some (eI t), some (eI b3)] [] (V3, d2)) (B := ev m_L_law 2579 [some (eR 0), some (eR 1), some (eR 70), some (eR 81), some (eI i), some (eI t), some (eI b3)] [] (V3, d2)) rfl (by rw [t2 ht0, hb3 ht0]; exact wrcmp) (show wr 0 = 0 by decide) rfl hR9) ?_
    refine rOf (fun R9 hR9 => xSeg (N := 1) (r := ev m_L_law 3064 [some (eR 0), some (eR 1), some (eR 70), some (eR 81), some (eI i), some (eI t), some (eI b3)] [] (V3, d2)) rfl hR9) ?_
    refine rOf (fun R9 hR9 => xTk 5 (by rfl) rfl hR9) ?_
    exact hK V3 d2 ⟨a2, x2, t, ot2, C3, M3, h03, h813⟩ dl2
  · refine rOf (fun R9 hR9 => xLdV (N := 6) (M2 := m_L_law) (pc2 := 2510) (r := 0) (ls2 := [some (eR 0), some (eR 1), some (eR 70), some (eR 81), some (eI i)]) (st2 := [eR 1]) (V := V) (d := d) (i := i + 1) (k := j + 1) (ok := eOkI) (mk := fun x => .inl x) rfl h0 rfl (wr_nat (by omega) (by omega)) (by omega) hR9) ?_
    refine rOf (fun R9 hR9 => xLdV (N := 5) (M2 := m_L_law) (pc2 := 2516) (r := 0) (ls2 := [some (eR 0), some (eR 1), some (eR 70), some (eR 81), some (eI i)]) (st2 := [eI (f (j + 1)), eR 1]) (V := V) (d := d) (i := i + 2) (k := j + 2) (ok := eOkI) (mk := fun x => .inl x) rfl h0 rfl (wr_nat (by omega) (by omega)) (by omega) hR9) ?_
    refine rOf (fun R9 hR9 => xLdV (N := 5) (M2 := m_L_law) (pc2 := 2522) (r := 0) (ls2 := [some (eR 0), some (eR 1), some (eR 70), some (eR 81), some (eI i)]) (st2 := [eI (f (j + 2)), eI (f (j + 1)), eR 1]) (V := V) (d := d) (i := i + 3) (k := j + 3) (ok := eOkI) (mk := fun x => .inl x) rfl h0 rfl (wr_nat (by omega) (by omega)) (by omega) hR9) ?_
    obtain ⟨V2, ot2, d2, q2, C2, o2, t2, fr2, dl2⟩ := hq V d ot C h81
    have h02 := (fr2.2 0 (by omega)).trans h0
    have h702 := (fr2.2 70 (by omega)).trans h70
    obtain ⟨P2, h12⟩ := CI_1 C2
    refine rOf (fun R9 hR9 => xCall (N := 2) (M2 := m_L_law) (pc2 := 2524) (ls2 := [some (eR 0), some (eR 1), some (eR 70), some (eR 81), some (eI i)]) (st2 := []) (y := m_L_setLetter) (as := [some (eR 1), some (eI (f (j + 1))), some (eI (f (j + 2))), some (eI (f (j + 3))), some (eR 81)]) (w2 := (V, d)) rfl q2 hR9) ?_
    refine rOf (fun R9 hR9 => xLdV (N := 7) (M2 := m_L_law) (pc2 := 2535) (r := 0) (ls2 := [some (eR 0), some (eR 1), some (eR 70), some (eR 81), some (eI i), some (eI t)]) (st2 := [eR 70]) (V := V2) (d := d2) (i := i + 1) (k := j + 1) (ok := eOkI) (mk := fun x => .inl x) rfl h02 rfl (wr_nat (by omega) (by omega)) (by omega) hR9) ?_
    refine rOf (fun R9 hR9 => xLdV (N := 5) (M2 := m_L_law) (pc2 := 2541) (r := 0) (ls2 := [some (eR 0), some (eR 1), some (eR 70), some (eR 81), some (eI i), some (eI t)]) (st2 := [eI (f (j + 1)), eR 70]) (V := V2) (d := d2) (i := i + 2) (k := j + 2) (ok := eOkI) (mk := fun x => .inl x) rfl h02 rfl (wr_nat (by omega) (by omega)) (by omega) hR9) ?_
    refine rOf (fun R9 hR9 => xLdV (N := 5) (M2 := m_L_law) (pc2 := 2547) (r := 0) (ls2 := [some (eR 0), some (eR 1), some (eR 70), some (eR 81), some (eI i), some (eI t)]) (st2 := [eI (f (j + 2)), eI (f (j + 1)), eR 70]) (V := V2) (d := d2) (i := i + 3) (k := j + 3) (ok := eOkI) (mk := fun x => .inl x) rfl h02 rfl (wr_nat (by omega) (by omega)) (by omega) hR9) ?_
    obtain ⟨V3, b3, q3, M3, hb3, fm3⟩ := kmV (d := d2) hn (MI_fr (fun k hk => fr2.2 k (by omega)) M) rfl
    have h03 := (fm3.2 0 (by omega)).trans h02
    have h13 := (fm3.2 1 (by omega)).trans h12
    have h813 := (fm3.2 81 (by omega)).trans o2
    obtain ⟨P3, h703⟩ := MI_70 M3
    have C3 := CI_fr (Nat.le_of_eq fm3.1.symm) (fun k hk => fm3.2 k (by omega)) C2
    refine rOf (fun R9 hR9 => xCallA1 (N := 1) (M2 := m_L_law) (pc2 := 2548) (y := m_M_setLetter) (n := 4) (ls2 := [some (eR 0), some (eR 1), some (eR 70), some (eR 81), some (eI i), some (eI t)]) (st2 := []) (st9 := [eI (f (j + 3)), eI (f (j + 2)), eI (f (j + 1)), eR 70]) (V := V2) (d := d2) (r := 70) (bs := [eI (f (j + 1)), eI (f (j + 2)), eI (f (j + 3))]) rfl rfl h702 rfl q3 hR9) ?_
    refine rOf (fun R9 hR9 => xCallA1 (N := 3) (M2 := m_L_law) (pc2 := 2554) (y := m_M_thrown) (n := 1) (ls2 := [some (eR 0), some (eR 1), some (eR 70), some (eR 81), some (eI i), some (eI t), some (eI b3)]) (st2 := []) (st9 := [eR 70]) (V := V3) (d := d2) (r := 70) (bs := []) rfl rfl h703 rfl (thrV M3) hR9) ?_
    refine rOf (fun R9 hR9 => xEqT (N := 2) (x := t) (y := t) (A := ev m_L_law 2564 [some (eR 0), some (eR 1), some (eR 70), some (eR 81), some (eI i), some (eI t), some (eI b3)] [] (V3, d2)) (B := ev m_L_law 2562 [some (eR 0), some (eR 1), some (eR 70), some (eR 81), some (eI i), some (eI t), some (eI b3)] [] (V3, d2)) rfl rfl rfl rfl hR9) ?_
    refine rOf (fun R9 hR9 => xEqF (N := 2) (x := t) (y := 0) (A := ev m_L_law 2569 [some (eR 0), some (eR 1), some (eR 70), some (eR 81), some (eI i), some (eI t), some (eI b3)] [] (V3, d2)) (B := ev m_L_law 2581 [some (eR 0), some (eR 1), some (eR 70), some (eR 81), some (eI i), some (eI t), some (eI b3)] [] (V3, d2)) rfl (wr_id (by omega) (by omega)) (show wr 0 = 0 by decide) (by omega) hR9) ?_
    refine rOf (fun R9 hR9 => xSeg (N := 1) (r := ev m_L_law 3064 [some (eR 0), some (eR 1), some (eR 70), some (eR 81), some (eI i), some (eI t), some (eI b3)] [] (V3, d2)) rfl hR9) ?_
    refine rOf (fun R9 hR9 => xTk 5 (by rfl) rfl hR9) ?_
    exact hK V3 d2 ⟨a2, x2, t, ot2, C3, M3, h03, h813⟩ dl2
theorem k_load {V : List eC} {d : Nat × Nat} {L j : Nat} {f : Nat → Int} {i : Int} {Q : (Option eV ⊕ Nat) × eW → Prop} (hi : i = (j : Int)) (hj : j + 6 ≤ L) (hL : L ≤ 3072) (hr : ∀ k, -2147483648 ≤ f k ∧ f k < 2147483648) (h : LI V L f) (hK : ∀ V' d', LI V' L f → dl d d' → Rs (ev m_L_law 3064 [some (eR 0), some (eR 1), some (eR 70), some (eR 81), some (eI i)] [] (V', d')) Q) : Rs (ev m_L_law 460 [some (eR 0), some (eR 1), some (eR 70), some (eR 81), some (eI i)] [] (V, d)) Q := by
  obtain ⟨a, x, t0, ot, C, M, h0, h81⟩ := h
  obtain ⟨P1, h1⟩ := CI_1 C
  obtain ⟨P70, h70⟩ := MI_70 M
  have hI : iA a := CI_I C
  obtain ⟨a2, x2, t, v, ht, hq, hn⟩ := u_load (a := a) (X := x) 
  by_cases ht0 : t = 0
  · obtain ⟨V2, ot2, d2, q2, C2, o2, t2, fr2, dl2⟩ := hq V d ot C h81
    have h02 := (fr2.2 0 (by omega)).trans h0
    have h702 := (fr2.2 70 (by omega)).trans h70
    obtain ⟨P2, h12⟩ := CI_1 C2
    refine rOf (fun R9 hR9 => xCall (N := 3) (M2 := m_L_law) (pc2 := 462) (ls2 := [some (eR 0), some (eR 1), some (eR 70), some (eR 81), some (eI i)]) (st2 := []) (y := m_L_load) (as := [some (eR 1), some (eR 81)]) (w2 := (V, d)) rfl q2 hR9) ?_
    obtain ⟨V3, b3, q3, M3, hb3, fm3⟩ := kmV (d := d2) hn (MI_fr (fun k hk => fr2.2 k (by omega)) M) rfl
    have h03 := (fm3.2 0 (by omega)).trans h02
    have h13 := (fm3.2 1 (by omega)).trans h12
    have h813 := (fm3.2 81 (by omega)).trans o2
    obtain ⟨P3, h703⟩ := MI_70 M3
    have C3 := CI_fr (Nat.le_of_eq fm3.1.symm) (fun k hk => fm3.2 k (by omega)) C2
    refine rOf (fun R9 hR9 => xCallA1 (N := 3) (M2 := m_L_law) (pc2 := 468) (y := m_M_load) (n := 1) (ls2 := [some (eR 0), some (eR 1), some (eR 70), some (eR 81), some (eI i), some (eI t)]) (st2 := []) (st9 := [eR 70]) (V := V2) (d := d2) (r := 70) (bs := []) rfl rfl h702 rfl q3 hR9) ?_
    refine rOf (fun R9 hR9 => xCallA1 (N := 3) (M2 := m_L_law) (pc2 := 474) (y := m_M_thrown) (n := 1) (ls2 := [some (eR 0), some (eR 1), some (eR 70), some (eR 81), some (eI i), some (eI t), some (eI b3)]) (st2 := []) (st9 := [eR 70]) (V := V3) (d := d2) (r := 70) (bs := []) rfl rfl h703 rfl (thrV M3) hR9) ?_
    refine rOf (fun R9 hR9 => xEqT (N := 2) (x := t) (y := t) (A := ev m_L_law 484 [some (eR 0), some (eR 1), some (eR 70), some (eR 81), some (eI i), some (eI t), some (eI b3)] [] (V3, d2)) (B := ev m_L_law 482 [some (eR 0), some (eR 1), some (eR 70), some (eR 81), some (eI i), some (eI t), some (eI b3)] [] (V3, d2)) rfl rfl rfl rfl hR9) ?_
    refine rOf (fun R9 hR9 => xEqT (N := 2) (x := t) (y := 0) (A := ev m_L_law 489 [some (eR 0), some (eR 1), some (eR 70), some (eR 81), some (eI i), some (eI t), some (eI b3)] [] (V3, d2)) (B := ev m_L_law 501 [some (eR 0), some (eR 1), some (eR 70), some (eR 81), some (eI i), some (eI t), some (eI b3)] [] (V3, d2)) rfl (wr_id (by omega) (by omega)) (show wr 0 = 0 by decide) (by omega) hR9) ?_
    refine rOf (fun R9 hR9 => xLdV (N := 3) (M2 := m_L_law) (pc2 := 491) (r := 81) (ls2 := [some (eR 0), some (eR 1), some (eR 70), some (eR 81), some (eI i), some (eI t), some (eI b3)]) (st2 := []) (V := V3) (d := d2) (i := 0) (k := 0) (ok := eOkJ) (mk := fun x => .inr (.inr (.inl x))) rfl h813 rfl (show wr 0 = ((0 : Nat) : Int) by decide) (by omega) hR9) ?_
    refine rOf (fun R9 hR9 => xEqT (N := 4) (x := bLcmp (ot2 0) (wr b3)) (y := 0) (A := ev m_L_law 501 [some (eR 0), some (eR 1), some (eR 70), some (eR 81), some (eI i), some (eI t), some (eI b3)] [] (V3, d2)) (B := ev m_L_law 499 [some (eR 0), some (eR 1), some (eR 70), some (eR 81), some (eI i), some (eI t), some (eI b3)] [] (V3, d2)) rfl (by rw [t2 ht0, hb3 ht0]; exact wrcmp) (show wr 0 = 0 by decide) rfl hR9) ?_
    refine rOf (fun R9 hR9 => xSeg (N := 1) (r := ev m_L_law 3064 [some (eR 0), some (eR 1), some (eR 70), some (eR 81), some (eI i), some (eI t), some (eI b3)] [] (V3, d2)) rfl hR9) ?_
    refine rOf (fun R9 hR9 => xTk 5 (by rfl) rfl hR9) ?_
    exact hK V3 d2 ⟨a2, x2, t, ot2, C3, M3, h03, h813⟩ dl2
  · obtain ⟨V2, ot2, d2, q2, C2, o2, t2, fr2, dl2⟩ := hq V d ot C h81
    have h02 := (fr2.2 0 (by omega)).trans h0
    have h702 := (fr2.2 70 (by omega)).trans h70
    obtain ⟨P2, h12⟩ := CI_1 C2
    refine rOf (fun R9 hR9 => xCall (N := 3) (M2 := m_L_law) (pc2 := 462) (ls2 := [some (eR 0), some (eR 1), some (eR 70), some (eR 81), some (eI i)]) (st2 := []) (y := m_L_load) (as := [some (eR 1), some (eR 81)]) (w2 := (V, d)) rfl q2 hR9) ?_
    obtain ⟨V3, b3, q3, M3, hb3, fm3⟩ := kmV (d := d2) hn (MI_fr (fun k hk => fr2.2 k (by omega)) M) rfl
    have h03 := (fm3.2 0 (by omega)).trans h02
    have h13 := (fm3.2 1 (by omega)).trans h12
    have h813 := (fm3.2 81 (by omega)).trans o2
    obtain ⟨P3, h703⟩ := MI_70 M3
    have C3 := CI_fr (Nat.le_of_eq fm3.1.symm) (fun k hk => fm3.2 k (by omega)) C2
    refine rOf (fun R9 hR9 => xCallA1 (N := 3) (M2 := m_L_law) (pc2 := 468) (y := m_M_load) (n := 1) (ls2 := [some (eR 0), some (eR 1), some (eR 70), some (eR 81), some (eI i), some (eI t)]) (st2 := []) (st9 := [eR 70]) (V := V2) (d := d2) (r := 70) (bs := []) rfl rfl h702 rfl q3 hR9) ?_
    refine rOf (fun R9 hR9 => xCallA1 (N := 3) (M2 := m_L_law) (pc2 := 474) (y := m_M_thrown) (n := 1) (ls2 := [some (eR 0), some (eR 1), some (eR 70), some (eR 81), some (eI i), some (eI t), some (eI b3)]) (st2 := []) (st9 := [eR 70]) (V := V3) (d := d2) (r := 70) (bs := []) rfl rfl h703 rfl (thrV M3) hR9) ?_
    refine rOf (fun R9 hR9 => xEqT (N := 2) (x := t) (y := t) (A := ev m_L_law 484 [some (eR 0), some (eR 1), some (eR 70), some (eR 81), some (eI i), some (eI t), some (eI b3)] [] (V3, d2)) (B := ev m_L_law 482 [some (eR 0), some (eR 1), some (eR 70), some (eR 81), some (eI i), some (eI t), some (eI b3)] [] (V3, d2)) rfl rfl rfl rfl hR9) ?_
    refine rOf (fun R9 hR9 => xEqF (N := 2) (x := t) (y := 0) (A := ev m_L_law 489 [some (eR 0), some (eR 1), some (eR 70), some (eR 81), some (eI i), some (eI t), some (eI b3)] [] (V3, d2)) (B := ev m_L_law 501 [some (eR 0), some (eR 1), some (eR 70), some (eR 81), some (eI i), some (eI t), some (eI b3)] [] (V3, d2)) rfl (wr_id (by omega) (by omega)) (show wr 0 = 0 by decide) (by omega) hR9) ?_
    refine rOf (fun R9 hR9 => xSeg (N := 1) (r := ev m_L_law 3064 [some (eR 0), some (eR 1), some (eR 70), some (eR 81), some (eI i), some (eI t), some (eI b3)] [] (V3, d2)) rfl hR9) ?_
    refine rOf (fun R9 hR9 => xTk 5 (by rfl) rfl hR9) ?_
    exact hK V3 d2 ⟨a2, x2, t, ot2, C3, M3, h03, h813⟩ dl2
theorem k_addWord {V : List eC} {d : Nat × Nat} {L j : Nat} {f : Nat → Int} {i : Int} {Q : (Option eV ⊕ Nat) × eW → Prop} (hi : i = (j : Int)) (hj : j + 6 ≤ L) (hL : L ≤ 3072) (hr : ∀ k, -2147483648 ≤ f k ∧ f k < 2147483648) (h : LI V L f) (hK : ∀ V' d', LI V' L f → dl d d' → Rs (ev m_L_law 3064 [some (eR 0), some (eR 1), some (eR 70), some (eR 81), some (eI i)] [] (V', d')) Q) : Rs (ev m_L_law 2448 [some (eR 0), some (eR 1), some (eR 70), some (eR 81), some (eI i)] [] (V, d)) Q := by
  obtain ⟨a, x, t0, ot, C, M, h0, h81⟩ := h
  obtain ⟨P1, h1⟩ := CI_1 C
  obtain ⟨P70, h70⟩ := MI_70 M
  have hI : iA a := CI_I C
  obtain ⟨a2, x2, t, v, ht, hq, hn⟩ := u_addWord (a := a) (X := x) hI.2.1.1 (hr (j + 1))
  by_cases ht0 : t = 0
  · refine rOf (fun R9 hR9 => xLdV (N := 6) (M2 := m_L_law) (pc2 := 2454) (r := 0) (ls2 := [some (eR 0), some (eR 1), some (eR 70), some (eR 81), some (eI i)]) (st2 := [eR 1]) (V := V) (d := d) (i := i + 1) (k := j + 1) (ok := eOkI) (mk := fun x => .inl x) rfl h0 rfl (wr_nat (by omega) (by omega)) (by omega) hR9) ?_
    obtain ⟨V2, ot2, d2, q2, C2, o2, t2, fr2, dl2⟩ := hq V d ot C h81
    have h02 := (fr2.2 0 (by omega)).trans h0
    have h702 := (fr2.2 70 (by omega)).trans h70
    obtain ⟨P2, h12⟩ := CI_1 C2
    refine rOf (fun R9 hR9 => xCall (N := 2) (M2 := m_L_law) (pc2 := 2456) (ls2 := [some (eR 0), some (eR 1), some (eR 70), some (eR 81), some (eI i)]) (st2 := []) (y := m_L_addWord) (as := [some (eR 1), some (eI (f (j + 1))), some (eR 81)]) (w2 := (V, d)) rfl q2 hR9) ?_
    refine rOf (fun R9 hR9 => xLdV (N := 7) (M2 := m_L_law) (pc2 := 2467) (r := 0) (ls2 := [some (eR 0), some (eR 1), some (eR 70), some (eR 81), some (eI i), some (eI t)]) (st2 := [eR 70]) (V := V2) (d := d2) (i := i + 1) (k := j + 1) (ok := eOkI) (mk := fun x => .inl x) rfl h02 rfl (wr_nat (by omega) (by omega)) (by omega) hR9) ?_
    obtain ⟨V3, b3, q3, M3, hb3, fm3⟩ := kmV (d := d2) hn (MI_fr (fun k hk => fr2.2 k (by omega)) M) rfl
    have h03 := (fm3.2 0 (by omega)).trans h02
    have h13 := (fm3.2 1 (by omega)).trans h12
    have h813 := (fm3.2 81 (by omega)).trans o2
    obtain ⟨P3, h703⟩ := MI_70 M3
    have C3 := CI_fr (Nat.le_of_eq fm3.1.symm) (fun k hk => fm3.2 k (by omega)) C2
    refine rOf (fun R9 hR9 => xCallA1 (N := 1) (M2 := m_L_law) (pc2 := 2468) (y := m_M_addWord) (n := 2) (ls2 := [some (eR 0), some (eR 1), some (eR 70), some (eR 81), some (eI i), some (eI t)]) (st2 := []) (st9 := [eI (f (j + 1)), eR 70]) (V := V2) (d := d2) (r := 70) (bs := [eI (f (j + 1))]) rfl rfl h702 rfl q3 hR9) ?_
    refine rOf (fun R9 hR9 => xCallA1 (N := 3) (M2 := m_L_law) (pc2 := 2474) (y := m_M_thrown) (n := 1) (ls2 := [some (eR 0), some (eR 1), some (eR 70), some (eR 81), some (eI i), some (eI t), some (eI b3)]) (st2 := []) (st9 := [eR 70]) (V := V3) (d := d2) (r := 70) (bs := []) rfl rfl h703 rfl (thrV M3) hR9) ?_
    refine rOf (fun R9 hR9 => xEqT (N := 2) (x := t) (y := t) (A := ev m_L_law 2484 [some (eR 0), some (eR 1), some (eR 70), some (eR 81), some (eI i), some (eI t), some (eI b3)] [] (V3, d2)) (B := ev m_L_law 2482 [some (eR 0), some (eR 1), some (eR 70), some (eR 81), some (eI i), some (eI t), some (eI b3)] [] (V3, d2)) rfl rfl rfl rfl hR9) ?_
    refine rOf (fun R9 hR9 => xEqT (N := 2) (x := t) (y := 0) (A := ev m_L_law 2489 [some (eR 0), some (eR 1), some (eR 70), some (eR 81), some (eI i), some (eI t), some (eI b3)] [] (V3, d2)) (B := ev m_L_law 2501 [some (eR 0), some (eR 1), some (eR 70), some (eR 81), some (eI i), some (eI t), some (eI b3)] [] (V3, d2)) rfl (wr_id (by omega) (by omega)) (show wr 0 = 0 by decide) (by omega) hR9) ?_
    refine rOf (fun R9 hR9 => xLdV (N := 3) (M2 := m_L_law) (pc2 := 2491) (r := 81) (ls2 := [some (eR 0), some (eR 1), some (eR 70), some (eR 81), some (eI i), some (eI t), some (eI b3)]) (st2 := []) (V := V3) (d := d2) (i := 0) (k := 0) (ok := eOkJ) (mk := fun x => .inr (.inr (.inl x))) rfl h813 rfl (show wr 0 = ((0 : Nat) : Int) by decide) (by omega) hR9) ?_
    refine rOf (fun R9 hR9 => xEqT (N := 4) (x := bLcmp (ot2 0) (wr b3)) (y := 0) (A := ev m_L_law 2501 [some (eR 0), some (eR 1), some (eR 70), some (eR 81), some (eI i), some (eI t), some (eI b3)] [] (V3, d2)) (B := ev m_L_law 2499 [some (eR 0), some (eR 1), some (eR 70), some (eR 81), some (eI i), some (eI t), some (eI b3)] [] (V3, d2)) rfl (by rw [t2 ht0, hb3 ht0]; exact wrcmp) (show wr 0 = 0 by decide) rfl hR9) ?_
    refine rOf (fun R9 hR9 => xSeg (N := 1) (r := ev m_L_law 3064 [some (eR 0), some (eR 1), some (eR 70), some (eR 81), some (eI i), some (eI t), some (eI b3)] [] (V3, d2)) rfl hR9) ?_
    refine rOf (fun R9 hR9 => xTk 5 (by rfl) rfl hR9) ?_
    exact hK V3 d2 ⟨a2, x2, t, ot2, C3, M3, h03, h813⟩ dl2
  · refine rOf (fun R9 hR9 => xLdV (N := 6) (M2 := m_L_law) (pc2 := 2454) (r := 0) (ls2 := [some (eR 0), some (eR 1), some (eR 70), some (eR 81), some (eI i)]) (st2 := [eR 1]) (V := V) (d := d) (i := i + 1) (k := j + 1) (ok := eOkI) (mk := fun x => .inl x) rfl h0 rfl (wr_nat (by omega) (by omega)) (by omega) hR9) ?_
    obtain ⟨V2, ot2, d2, q2, C2, o2, t2, fr2, dl2⟩ := hq V d ot C h81
    have h02 := (fr2.2 0 (by omega)).trans h0
    have h702 := (fr2.2 70 (by omega)).trans h70
    obtain ⟨P2, h12⟩ := CI_1 C2
    refine rOf (fun R9 hR9 => xCall (N := 2) (M2 := m_L_law) (pc2 := 2456) (ls2 := [some (eR 0), some (eR 1), some (eR 70), some (eR 81), some (eI i)]) (st2 := []) (y := m_L_addWord) (as := [some (eR 1), some (eI (f (j + 1))), some (eR 81)]) (w2 := (V, d)) rfl q2 hR9) ?_
    refine rOf (fun R9 hR9 => xLdV (N := 7) (M2 := m_L_law) (pc2 := 2467) (r := 0) (ls2 := [some (eR 0), some (eR 1), some (eR 70), some (eR 81), some (eI i), some (eI t)]) (st2 := [eR 70]) (V := V2) (d := d2) (i := i + 1) (k := j + 1) (ok := eOkI) (mk := fun x => .inl x) rfl h02 rfl (wr_nat (by omega) (by omega)) (by omega) hR9) ?_
    obtain ⟨V3, b3, q3, M3, hb3, fm3⟩ := kmV (d := d2) hn (MI_fr (fun k hk => fr2.2 k (by omega)) M) rfl
    have h03 := (fm3.2 0 (by omega)).trans h02
    have h13 := (fm3.2 1 (by omega)).trans h12
    have h813 := (fm3.2 81 (by omega)).trans o2
    obtain ⟨P3, h703⟩ := MI_70 M3
    have C3 := CI_fr (Nat.le_of_eq fm3.1.symm) (fun k hk => fm3.2 k (by omega)) C2
    refine rOf (fun R9 hR9 => xCallA1 (N := 1) (M2 := m_L_law) (pc2 := 2468) (y := m_M_addWord) (n := 2) (ls2 := [some (eR 0), some (eR 1), some (eR 70), some (eR 81), some (eI i), some (eI t)]) (st2 := []) (st9 := [eI (f (j + 1)), eR 70]) (V := V2) (d := d2) (r := 70) (bs := [eI (f (j + 1))]) rfl rfl h702 rfl q3 hR9) ?_
    refine rOf (fun R9 hR9 => xCallA1 (N := 3) (M2 := m_L_law) (pc2 := 2474) (y := m_M_thrown) (n := 1) (ls2 := [some (eR 0), some (eR 1), some (eR 70), some (eR 81), some (eI i), some (eI t), some (eI b3)]) (st2 := []) (st9 := [eR 70]) (V := V3) (d := d2) (r := 70) (bs := []) rfl rfl h703 rfl (thrV M3) hR9) ?_
    refine rOf (fun R9 hR9 => xEqT (N := 2) (x := t) (y := t) (A := ev m_L_law 2484 [some (eR 0), some (eR 1), some (eR 70), some (eR 81), some (eI i), some (eI t), some (eI b3)] [] (V3, d2)) (B := ev m_L_law 2482 [some (eR 0), some (eR 1), some (eR 70), some (eR 81), some (eI i), some (eI t), some (eI b3)] [] (V3, d2)) rfl rfl rfl rfl hR9) ?_
    refine rOf (fun R9 hR9 => xEqF (N := 2) (x := t) (y := 0) (A := ev m_L_law 2489 [some (eR 0), some (eR 1), some (eR 70), some (eR 81), some (eI i), some (eI t), some (eI b3)] [] (V3, d2)) (B := ev m_L_law 2501 [some (eR 0), some (eR 1), some (eR 70), some (eR 81), some (eI i), some (eI t), some (eI b3)] [] (V3, d2)) rfl (wr_id (by omega) (by omega)) (show wr 0 = 0 by decide) (by omega) hR9) ?_
    refine rOf (fun R9 hR9 => xSeg (N := 1) (r := ev m_L_law 3064 [some (eR 0), some (eR 1), some (eR 70), some (eR 81), some (eI i), some (eI t), some (eI b3)] [] (V3, d2)) rfl hR9) ?_
    refine rOf (fun R9 hR9 => xTk 5 (by rfl) rfl hR9) ?_
    exact hK V3 d2 ⟨a2, x2, t, ot2, C3, M3, h03, h813⟩ dl2
theorem k_errorCode {V : List eC} {d : Nat × Nat} {L j : Nat} {f : Nat → Int} {i : Int} {Q : (Option eV ⊕ Nat) × eW → Prop} (hi : i = (j : Int)) (hj : j + 6 ≤ L) (hL : L ≤ 3072) (hr : ∀ k, -2147483648 ≤ f k ∧ f k < 2147483648) (h : LI V L f) (hK : ∀ V' d', LI V' L f → dl d d' → Rs (ev m_L_law 3064 [some (eR 0), some (eR 1), some (eR 70), some (eR 81), some (eI i)] [] (V', d')) Q) : Rs (ev m_L_law 504 [some (eR 0), some (eR 1), some (eR 70), some (eR 81), some (eI i)] [] (V, d)) Q := by
  obtain ⟨a, x, t0, ot, C, M, h0, h81⟩ := h
  obtain ⟨P1, h1⟩ := CI_1 C
  obtain ⟨P70, h70⟩ := MI_70 M
  have hI : iA a := CI_I C
  obtain ⟨a2, x2, v, hq, hn⟩ := u_errorCode (a := a) (X := x)
  obtain ⟨V2, d2, q2, C2, o2, fr2, dd1, dd2⟩ := hq V d ot C h81
  have h02 := (fr2.2 0 (by omega)).trans h0
  have h702 := (fr2.2 70 (by omega)).trans h70
  obtain ⟨P2, h12⟩ := CI_1 C2
  refine rOf (fun R9 hR9 => xCallA1 (N := 2) (M2 := m_L_law) (pc2 := 505) (y := m_S_errorCode) (n := 1) (ls2 := [some (eR 0), some (eR 1), some (eR 70), some (eR 81), some (eI i)]) (st2 := []) (st9 := [eR 1]) (V := V) (d := d) (r := 1) (bs := []) rfl rfl h1 rfl q2 hR9) ?_
  obtain ⟨V3, b3, q3, M3, hb3, fm3⟩ := kmV (d := d2) hn (MI_fr (fun k hk => fr2.2 k (by omega)) M) rfl
  rw [hb3 rfl] at q3
  have h03 := (fm3.2 0 (by omega)).trans h02
  have h13 := (fm3.2 1 (by omega)).trans h12
  have h813 := (fm3.2 81 (by omega)).trans o2
  obtain ⟨P3, h703⟩ := MI_70 M3
  have C3 := CI_fr (Nat.le_of_eq fm3.1.symm) (fun k hk => fm3.2 k (by omega)) C2
  refine rOf (fun R9 hR9 => xCallA1 (N := 2) (M2 := m_L_law) (pc2 := 509) (y := m_M_errorCode) (n := 1) (ls2 := [some (eR 0), some (eR 1), some (eR 70), some (eR 81), some (eI i)]) (st2 := [eI v]) (st9 := [eR 70, eI v]) (V := V2) (d := d2) (r := 70) (bs := []) rfl rfl h702 rfl q3 hR9) ?_
  refine rOf (fun R9 hR9 => xEqT (N := 1) (x := v) (y := v) (A := ev m_L_law 3064 [some (eR 0), some (eR 1), some (eR 70), some (eR 81), some (eI i)] [] (V3, d2)) (B := ev m_L_law 515 [some (eR 0), some (eR 1), some (eR 70), some (eR 81), some (eI i)] [] (V3, d2)) rfl rfl rfl rfl hR9) ?_
  exact hK V3 d2 ⟨a2, x2, 0, ot, C3, M3, h03, h813⟩ (by unfold dl; omega)
theorem k_errorPosition {V : List eC} {d : Nat × Nat} {L j : Nat} {f : Nat → Int} {i : Int} {Q : (Option eV ⊕ Nat) × eW → Prop} (hi : i = (j : Int)) (hj : j + 6 ≤ L) (hL : L ≤ 3072) (hr : ∀ k, -2147483648 ≤ f k ∧ f k < 2147483648) (h : LI V L f) (hK : ∀ V' d', LI V' L f → dl d d' → Rs (ev m_L_law 3064 [some (eR 0), some (eR 1), some (eR 70), some (eR 81), some (eI i)] [] (V', d')) Q) : Rs (ev m_L_law 517 [some (eR 0), some (eR 1), some (eR 70), some (eR 81), some (eI i)] [] (V, d)) Q := by
  obtain ⟨a, x, t0, ot, C, M, h0, h81⟩ := h
  obtain ⟨P1, h1⟩ := CI_1 C
  obtain ⟨P70, h70⟩ := MI_70 M
  have hI : iA a := CI_I C
  obtain ⟨a2, x2, v, hq, hn⟩ := u_errorPosition (a := a) (X := x)
  obtain ⟨V2, d2, q2, C2, o2, fr2, dd1, dd2⟩ := hq V d ot C h81
  have h02 := (fr2.2 0 (by omega)).trans h0
  have h702 := (fr2.2 70 (by omega)).trans h70
  obtain ⟨P2, h12⟩ := CI_1 C2
  refine rOf (fun R9 hR9 => xCallA1 (N := 2) (M2 := m_L_law) (pc2 := 518) (y := m_S_errorPosition) (n := 1) (ls2 := [some (eR 0), some (eR 1), some (eR 70), some (eR 81), some (eI i)]) (st2 := []) (st9 := [eR 1]) (V := V) (d := d) (r := 1) (bs := []) rfl rfl h1 rfl q2 hR9) ?_
  obtain ⟨V3, b3, q3, M3, hb3, fm3⟩ := kmV (d := d2) hn (MI_fr (fun k hk => fr2.2 k (by omega)) M) rfl
  rw [hb3 rfl] at q3
  have h03 := (fm3.2 0 (by omega)).trans h02
  have h13 := (fm3.2 1 (by omega)).trans h12
  have h813 := (fm3.2 81 (by omega)).trans o2
  obtain ⟨P3, h703⟩ := MI_70 M3
  have C3 := CI_fr (Nat.le_of_eq fm3.1.symm) (fun k hk => fm3.2 k (by omega)) C2
  refine rOf (fun R9 hR9 => xCallA1 (N := 2) (M2 := m_L_law) (pc2 := 522) (y := m_M_errorPosition) (n := 1) (ls2 := [some (eR 0), some (eR 1), some (eR 70), some (eR 81), some (eI i)]) (st2 := [eI v]) (st9 := [eR 70, eI v]) (V := V2) (d := d2) (r := 70) (bs := []) rfl rfl h702 rfl q3 hR9) ?_
  refine rOf (fun R9 hR9 => xEqT (N := 1) (x := v) (y := v) (A := ev m_L_law 3064 [some (eR 0), some (eR 1), some (eR 70), some (eR 81), some (eI i)] [] (V3, d2)) (B := ev m_L_law 528 [some (eR 0), some (eR 1), some (eR 70), some (eR 81), some (eI i)] [] (V3, d2)) rfl rfl rfl rfl hR9) ?_
  exact hK V3 d2 ⟨a2, x2, 0, ot, C3, M3, h03, h813⟩ (by unfold dl; omega)
theorem k_findWord {V : List eC} {d : Nat × Nat} {L j : Nat} {f : Nat → Int} {i : Int} {Q : (Option eV ⊕ Nat) × eW → Prop} (hi : i = (j : Int)) (hj : j + 6 ≤ L) (hL : L ≤ 3072) (hr : ∀ k, -2147483648 ≤ f k ∧ f k < 2147483648) (h : LI V L f) (hK : ∀ V' d', LI V' L f → dl d d' → Rs (ev m_L_law 3064 [some (eR 0), some (eR 1), some (eR 70), some (eR 81), some (eI i)] [] (V', d')) Q) : Rs (ev m_L_law 582 [some (eR 0), some (eR 1), some (eR 70), some (eR 81), some (eI i)] [] (V, d)) Q := by
  obtain ⟨a, x, t0, ot, C, M, h0, h81⟩ := h
  obtain ⟨P1, h1⟩ := CI_1 C
  obtain ⟨P70, h70⟩ := MI_70 M
  have hI : iA a := CI_I C
  obtain ⟨a2, x2, v, hq, hn⟩ := u_findWord (a := a) (X := x)
  obtain ⟨V2, d2, q2, C2, o2, fr2, dd1, dd2⟩ := hq V d ot C h81
  have h02 := (fr2.2 0 (by omega)).trans h0
  have h702 := (fr2.2 70 (by omega)).trans h70
  obtain ⟨P2, h12⟩ := CI_1 C2
  refine rOf (fun R9 hR9 => xCallA1 (N := 2) (M2 := m_L_law) (pc2 := 583) (y := m_S_findWord) (n := 1) (ls2 := [some (eR 0), some (eR 1), some (eR 70), some (eR 81), some (eI i)]) (st2 := []) (st9 := [eR 1]) (V := V) (d := d) (r := 1) (bs := []) rfl rfl h1 rfl q2 hR9) ?_
  obtain ⟨V3, b3, q3, M3, hb3, fm3⟩ := kmV (d := d2) hn (MI_fr (fun k hk => fr2.2 k (by omega)) M) rfl
  rw [hb3 rfl] at q3
  have h03 := (fm3.2 0 (by omega)).trans h02
  have h13 := (fm3.2 1 (by omega)).trans h12
  have h813 := (fm3.2 81 (by omega)).trans o2
  obtain ⟨P3, h703⟩ := MI_70 M3
  have C3 := CI_fr (Nat.le_of_eq fm3.1.symm) (fun k hk => fm3.2 k (by omega)) C2
  refine rOf (fun R9 hR9 => xCallA1 (N := 2) (M2 := m_L_law) (pc2 := 587) (y := m_M_findWord) (n := 1) (ls2 := [some (eR 0), some (eR 1), some (eR 70), some (eR 81), some (eI i)]) (st2 := [eI v]) (st9 := [eR 70, eI v]) (V := V2) (d := d2) (r := 70) (bs := []) rfl rfl h702 rfl q3 hR9) ?_
  refine rOf (fun R9 hR9 => xEqT (N := 1) (x := v) (y := v) (A := ev m_L_law 3064 [some (eR 0), some (eR 1), some (eR 70), some (eR 81), some (eI i)] [] (V3, d2)) (B := ev m_L_law 593 [some (eR 0), some (eR 1), some (eR 70), some (eR 81), some (eI i)] [] (V3, d2)) rfl rfl rfl rfl hR9) ?_
  exact hK V3 d2 ⟨a2, x2, 0, ot, C3, M3, h03, h813⟩ (by unfold dl; omega)
theorem k_stepsToEnd {V : List eC} {d : Nat × Nat} {L j : Nat} {f : Nat → Int} {i : Int} {Q : (Option eV ⊕ Nat) × eW → Prop} (hi : i = (j : Int)) (hj : j + 6 ≤ L) (hL : L ≤ 3072) (hr : ∀ k, -2147483648 ≤ f k ∧ f k < 2147483648) (h : LI V L f) (hK : ∀ V' d', LI V' L f → dl d d' → Rs (ev m_L_law 3064 [some (eR 0), some (eR 1), some (eR 70), some (eR 81), some (eI i)] [] (V', d')) Q) : Rs (ev m_L_law 2273 [some (eR 0), some (eR 1), some (eR 70), some (eR 81), some (eI i)] [] (V, d)) Q := by
  obtain ⟨a, x, t0, ot, C, M, h0, h81⟩ := h
  obtain ⟨P1, h1⟩ := CI_1 C
  obtain ⟨P70, h70⟩ := MI_70 M
  have hI : iA a := CI_I C
  obtain ⟨a2, x2, v, hq, hn⟩ := u_stepsToEnd (a := a) (X := x)
  obtain ⟨V2, d2, q2, C2, o2, fr2, dd1, dd2⟩ := hq V d ot C h81
  have h02 := (fr2.2 0 (by omega)).trans h0
  have h702 := (fr2.2 70 (by omega)).trans h70
  obtain ⟨P2, h12⟩ := CI_1 C2
  refine rOf (fun R9 hR9 => xCallA1 (N := 2) (M2 := m_L_law) (pc2 := 2274) (y := m_S_stepsToEnd) (n := 1) (ls2 := [some (eR 0), some (eR 1), some (eR 70), some (eR 81), some (eI i)]) (st2 := []) (st9 := [eR 1]) (V := V) (d := d) (r := 1) (bs := []) rfl rfl h1 rfl q2 hR9) ?_
  obtain ⟨V3, b3, q3, M3, hb3, fm3⟩ := kmV (d := d2) hn (MI_fr (fun k hk => fr2.2 k (by omega)) M) rfl
  rw [hb3 rfl] at q3
  have h03 := (fm3.2 0 (by omega)).trans h02
  have h13 := (fm3.2 1 (by omega)).trans h12
  have h813 := (fm3.2 81 (by omega)).trans o2
  obtain ⟨P3, h703⟩ := MI_70 M3
  have C3 := CI_fr (Nat.le_of_eq fm3.1.symm) (fun k hk => fm3.2 k (by omega)) C2
  refine rOf (fun R9 hR9 => xCallA1 (N := 2) (M2 := m_L_law) (pc2 := 2278) (y := m_M_stepsToEnd) (n := 1) (ls2 := [some (eR 0), some (eR 1), some (eR 70), some (eR 81), some (eI i)]) (st2 := [eI v]) (st9 := [eR 70, eI v]) (V := V2) (d := d2) (r := 70) (bs := []) rfl rfl h702 rfl q3 hR9) ?_
  refine rOf (fun R9 hR9 => xEqT (N := 1) (x := v) (y := v) (A := ev m_L_law 3064 [some (eR 0), some (eR 1), some (eR 70), some (eR 81), some (eI i)] [] (V3, d2)) (B := ev m_L_law 2284 [some (eR 0), some (eR 1), some (eR 70), some (eR 81), some (eI i)] [] (V3, d2)) rfl rfl rfl rfl hR9) ?_
  exact hK V3 d2 ⟨a2, x2, 0, ot, C3, M3, h03, h813⟩ (by unfold dl; omega)
theorem k_stateAtEnd {V : List eC} {d : Nat × Nat} {L j : Nat} {f : Nat → Int} {i : Int} {Q : (Option eV ⊕ Nat) × eW → Prop} (hi : i = (j : Int)) (hj : j + 6 ≤ L) (hL : L ≤ 3072) (hr : ∀ k, -2147483648 ≤ f k ∧ f k < 2147483648) (h : LI V L f) (hK : ∀ V' d', LI V' L f → dl d d' → Rs (ev m_L_law 3064 [some (eR 0), some (eR 1), some (eR 70), some (eR 81), some (eI i)] [] (V', d')) Q) : Rs (ev m_L_law 2286 [some (eR 0), some (eR 1), some (eR 70), some (eR 81), some (eI i)] [] (V, d)) Q := by
  obtain ⟨a, x, t0, ot, C, M, h0, h81⟩ := h
  obtain ⟨P1, h1⟩ := CI_1 C
  obtain ⟨P70, h70⟩ := MI_70 M
  have hI : iA a := CI_I C
  obtain ⟨a2, x2, v, hq, hn⟩ := u_stateAtEnd (a := a) (X := x)
  obtain ⟨V2, d2, q2, C2, o2, fr2, dd1, dd2⟩ := hq V d ot C h81
  have h02 := (fr2.2 0 (by omega)).trans h0
  have h702 := (fr2.2 70 (by omega)).trans h70
  obtain ⟨P2, h12⟩ := CI_1 C2
  refine rOf (fun R9 hR9 => xCallA1 (N := 2) (M2 := m_L_law) (pc2 := 2287) (y := m_S_stateAtEnd) (n := 1) (ls2 := [some (eR 0), some (eR 1), some (eR 70), some (eR 81), some (eI i)]) (st2 := []) (st9 := [eR 1]) (V := V) (d := d) (r := 1) (bs := []) rfl rfl h1 rfl q2 hR9) ?_
  obtain ⟨V3, b3, q3, M3, hb3, fm3⟩ := kmV (d := d2) hn (MI_fr (fun k hk => fr2.2 k (by omega)) M) rfl
  rw [hb3 rfl] at q3
  have h03 := (fm3.2 0 (by omega)).trans h02
  have h13 := (fm3.2 1 (by omega)).trans h12
  have h813 := (fm3.2 81 (by omega)).trans o2
  obtain ⟨P3, h703⟩ := MI_70 M3
  have C3 := CI_fr (Nat.le_of_eq fm3.1.symm) (fun k hk => fm3.2 k (by omega)) C2
  refine rOf (fun R9 hR9 => xCallA1 (N := 2) (M2 := m_L_law) (pc2 := 2291) (y := m_M_stateAtEnd) (n := 1) (ls2 := [some (eR 0), some (eR 1), some (eR 70), some (eR 81), some (eI i)]) (st2 := [eI v]) (st9 := [eR 70, eI v]) (V := V2) (d := d2) (r := 70) (bs := []) rfl rfl h702 rfl q3 hR9) ?_
  refine rOf (fun R9 hR9 => xEqT (N := 1) (x := v) (y := v) (A := ev m_L_law 3064 [some (eR 0), some (eR 1), some (eR 70), some (eR 81), some (eI i)] [] (V3, d2)) (B := ev m_L_law 2297 [some (eR 0), some (eR 1), some (eR 70), some (eR 81), some (eI i)] [] (V3, d2)) rfl rfl rfl rfl hR9) ?_
  exact hK V3 d2 ⟨a2, x2, 0, ot, C3, M3, h03, h813⟩ (by unfold dl; omega)
