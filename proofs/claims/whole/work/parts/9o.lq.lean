/-! The questions, as the law asks them. -/
/-- a question of the class as the law asks it: t what is thrown, v the answer -/
def LQ (y : Nat) (as : eL) (a : eRow) (t v : Int) : Prop := ∀ (P : Nat → Int) (S : wS) (ot : Nat → Int), wA S a → ∃ (S' : wS) (ot' : Nat → Int) (x1 x2 : Nat), wA S' a ∧ (t = 0 → ot' 0 = wr v) ∧ x1 ≤ 1 ∧ x2 ≤ 6 ∧ ev y 0 (some (eR 0) :: (as ++ [some (eR 1)])) [] ([xO P, eA 3 1 ot] ++ wCb 2 S, (0, 0)) = some (.inl (some (eI t)), ([xO P, eA 3 1 ot'] ++ wCb 2 S', (x1, x2)))
/-- a question of the model -/
def NQ (y : Nat) (as : eL) (a : eRow) (t v : Int) : Prop := ∀ (P g mk fr : Nat → Int), rg g a → ∃ (mk' : Nat → Int) (b : Int), (t = 0 → b = v) ∧ ev y 0 (some (eR 1) :: as) [] ([eA 0 964 g, mZ P, eA 0 144 mk, eA 0 24 fr], (0, 0)) = some (.inl (some (eI b)), ([eA 0 964 g, mZ (eUp P 10 t), eA 0 144 mk', eA 0 24 fr], (0, 0)))
theorem bl01 {z v : Int} (h : z = v) (hv : (∃ b, v = bI b) ∨ 0 ≤ v ∧ v ≤ 1) : z = 1 ∨ z = 0 := by
  rcases hv with ⟨b, hb⟩ | hv
  · rw [h, hb]
    cases b
    · exact Or.inr rfl
    · exact Or.inl rfl
  · omega
set_option maxRecDepth 100000
theorem q_isBlocked {a : eRow} (hI : iA a) {x y : Int} (rx : -2147483648 ≤ x ∧ x < 2147483648) (ry : -2147483648 ≤ y ∧ y < 2147483648) : ∃ t v : Int, (0 ≤ t ∧ t ≤ 2) ∧ (t = 0 → v = 1 ∨ v = 0) ∧ LQ m_L_isBlocked [some (eI x), some (eI y)] a t v ∧ NQ m_M_isBlocked [some (eI x), some (eI y)] a t v := by
  have bG := hI.1.1
  by_cases h : inG (a 0) (a 1) x y = true
  · have h9 := of_decide_eq_true h
    obtain ⟨xn, hx⟩ : ∃ n : Nat, x = (n : Int) := ⟨x.toNat, by omega⟩
    obtain ⟨yn, hy⟩ : ∃ n : Nat, y = (n : Int) := ⟨y.toNat, by omega⟩
    refine ⟨0, ((a (16 + (6 * yn + xn)) : Nat) : Int), by omega, (fun _ => bl01 rfl (Or.inr (by have := (hI.1.2.1 (6 * yn + xn) (by omega)).1; omega))), fun P S ot hA => ?_, fun P g mk fr hg => ?_⟩
    · have hs := s_isBlocked (P := P) (ot := ot) (c := (0, 0)) hA hI hx hy (by omega) (by omega)
      obtain ⟨zv, hzv⟩ : ∃ zv : Int, zv = ((a (16 + (6 * yn + xn)) : Nat) : Int) := ⟨_, rfl⟩
      rw [← hzv] at hs
      have hz := bl01 hzv (Or.inr (by have := (hI.1.2.1 (6 * yn + xn) (by omega)).1; omega))
      rcases hz with hz | hz
      · refine ⟨S, eUp ot 0 1, 0, 0, hA, fun _ => by rw [eUp_at, ← hzv, hz]; rfl, by omega, by omega, ?_⟩
        refine xCallW (N := 6) (M2 := m_L_isBlocked) (pc2 := 5) (ls2 := [some (eR 0), some (eI x), some (eI y), some (eR 1)]) (st2 := [eI 0, eR 1]) (y := m_S_isBlocked) (as := [some (eR 0), some (eI x), some (eI y)]) (w2 := (([xO P, eA 3 1 ot]) ++ wCb 2 S, (0, 0))) rfl hs ?_
        refine xEqF (N := 1) (x := zv) (y := 0) (A := ev m_L_isBlocked 15 [some (eR 0), some (eI x), some (eI y), some (eR 1)] [eI 0, eR 1] (([xO P, eA 3 1 ot]) ++ wCb 2 S, (0, 0))) (B := ev m_L_isBlocked 11 [some (eR 0), some (eI x), some (eI y), some (eR 1)] [eI 0, eR 1] (([xO P, eA 3 1 ot]) ++ wCb 2 S, (0, 0))) rfl (wr_id (by omega) (by omega)) (show wr 0 = 0 by decide) (by omega) ?_
        refine xLd (N := 3) (n := 1) (i := 0) (F := fun zq => ev m_L_isBlocked 17 [some (eR 0), some (eI x), some (eI y), some (eR 1)] [] (([xO P, eA 3 1 (eUp ot zq 1)]) ++ wCb 2 S, (0, 0))) (k := 0) rfl (show wr 0 = ((0 : Nat) : Int) by decide) (by omega) ?_
        refine xSeg (N := 3) (r := some (.inl (some (eI 0)), (([xO P, eA 3 1 (eUp ot 0 1)]) ++ wCb 2 S, (0, 0)))) rfl ?_
        rfl
      · refine ⟨S, eUp ot 0 0, 0, 0, hA, fun _ => by rw [eUp_at, ← hzv, hz]; rfl, by omega, by omega, ?_⟩
        refine xCallW (N := 6) (M2 := m_L_isBlocked) (pc2 := 5) (ls2 := [some (eR 0), some (eI x), some (eI y), some (eR 1)]) (st2 := [eI 0, eR 1]) (y := m_S_isBlocked) (as := [some (eR 0), some (eI x), some (eI y)]) (w2 := (([xO P, eA 3 1 ot]) ++ wCb 2 S, (0, 0))) rfl hs ?_
        refine xEqT (N := 1) (x := zv) (y := 0) (A := ev m_L_isBlocked 15 [some (eR 0), some (eI x), some (eI y), some (eR 1)] [eI 0, eR 1] (([xO P, eA 3 1 ot]) ++ wCb 2 S, (0, 0))) (B := ev m_L_isBlocked 11 [some (eR 0), some (eI x), some (eI y), some (eR 1)] [eI 0, eR 1] (([xO P, eA 3 1 ot]) ++ wCb 2 S, (0, 0))) rfl (wr_id (by omega) (by omega)) (show wr 0 = 0 by decide) (by omega) ?_
        refine xLd (N := 2) (n := 1) (i := 0) (F := fun zq => ev m_L_isBlocked 17 [some (eR 0), some (eI x), some (eI y), some (eR 1)] [] (([xO P, eA 3 1 (eUp ot zq 0)]) ++ wCb 2 S, (0, 0))) (k := 0) rfl (show wr 0 = ((0 : Nat) : Int) by decide) (by omega) ?_
        refine xSeg (N := 3) (r := some (.inl (some (eI 0)), (([xO P, eA 3 1 (eUp ot 0 0)]) ++ wCb 2 S, (0, 0)))) rfl ?_
        rfl
    · exact ⟨mk, _, fun _ => rfl, z_isBlocked (mk := mk) (fr := fr) (P := P) (c := (0, 0)) hg hI hx hy (by omega) (by omega)⟩
  · have h : inG (a 0) (a 1) x y = false := by cases hb : inG (a 0) (a 1) x y with | false => rfl | true => exact absurd hb h
    refine ⟨1, 0, by omega, fun _ => Or.inr rfl, fun P S ot hA => ?_, fun P g mk fr hg => ?_⟩
    · have hs := s_isBlockedX (P := P) (ot := ot) (c := (0, 0)) hA hI rx ry h
      refine ⟨S, ot, 0 + 1, 0 + 6, hA, fun h => absurd h (by decide), by omega, by omega, ?_⟩
      refine xCatch (N := 6) (E := 1) (p := 22) (M2 := m_L_isBlocked) (pc2 := 5) (ls2 := [some (eR 0), some (eI x), some (eI y), some (eR 1)]) (st2 := [eI 0, eR 1]) (y := m_S_isBlocked) (as := [some (eR 0), some (eI x), some (eI y)]) (w2 := (([xO P, eA 3 1 ot]) ++ wCb 2 S, (0, 0))) rfl hs (by rfl) ?_
      refine xSeg (N := 2) (r := some (.inl (some (eI 1)), (([xO P, eA 3 1 ot]) ++ wCb 2 S, (0 + 1, 0 + 6)))) rfl ?_
      rfl
    · exact ⟨mk, _, fun h => absurd h (by decide), z_isBlockedX (mk := mk) (fr := fr) (P := P) (c := (0, 0)) hg hI rx ry h⟩
theorem q_givenLetter {a : eRow} (hI : iA a) {x y : Int} (rx : -2147483648 ≤ x ∧ x < 2147483648) (ry : -2147483648 ≤ y ∧ y < 2147483648) : ∃ t v : Int, (0 ≤ t ∧ t ≤ 2) ∧ LQ m_L_givenLetter [some (eI x), some (eI y)] a t v ∧ NQ m_M_givenLetter [some (eI x), some (eI y)] a t v := by
  have bG := hI.1.1
  by_cases h : inG (a 0) (a 1) x y = true
  · have h9 := of_decide_eq_true h
    obtain ⟨xn, hx⟩ : ∃ n : Nat, x = (n : Int) := ⟨x.toNat, by omega⟩
    obtain ⟨yn, hy⟩ : ∃ n : Nat, y = (n : Int) := ⟨y.toNat, by omega⟩
    refine ⟨0, ((a (52 + (6 * yn + xn)) : Nat) : Int), by omega, fun P S ot hA => ?_, fun P g mk fr hg => ?_⟩
    · have hs := s_givenLetter (P := P) (ot := ot) (c := (0, 0)) hA hI hx hy (by omega) (by omega)
      obtain ⟨zv, hzv⟩ : ∃ zv : Int, zv = ((a (52 + (6 * yn + xn)) : Nat) : Int) := ⟨_, rfl⟩
      rw [← hzv] at hs
      refine ⟨S, eUp ot 0 (wr zv), 0, 0, hA, fun _ => by rw [eUp_at, hzv], by omega, by omega, ?_⟩
      refine xCallW (N := 6) (M2 := m_L_givenLetter) (pc2 := 5) (ls2 := [some (eR 0), some (eI x), some (eI y), some (eR 1)]) (st2 := [eI 0, eR 1]) (y := m_S_givenLetter) (as := [some (eR 0), some (eI x), some (eI y)]) (w2 := (([xO P, eA 3 1 ot]) ++ wCb 2 S, (0, 0))) rfl hs ?_
      refine xLd (N := 2) (n := 1) (i := 0) (F := fun zq => ev m_L_givenLetter 10 [some (eR 0), some (eI x), some (eI y), some (eR 1)] [] (([xO P, eA 3 1 (eUp ot zq (wr zv))]) ++ wCb 2 S, (0, 0))) (k := 0) rfl (show wr 0 = ((0 : Nat) : Int) by decide) (by omega) ?_
      refine xSeg (N := 3) (r := some (.inl (some (eI 0)), (([xO P, eA 3 1 (eUp ot 0 (wr zv))]) ++ wCb 2 S, (0, 0)))) rfl ?_
      rfl
    · exact ⟨mk, _, fun _ => rfl, z_givenLetter (mk := mk) (fr := fr) (P := P) (c := (0, 0)) hg hI hx hy (by omega) (by omega)⟩
  · have h : inG (a 0) (a 1) x y = false := by cases hb : inG (a 0) (a 1) x y with | false => rfl | true => exact absurd hb h
    refine ⟨1, 0, by omega, fun P S ot hA => ?_, fun P g mk fr hg => ?_⟩
    · have hs := s_givenLetterX (P := P) (ot := ot) (c := (0, 0)) hA hI rx ry h
      refine ⟨S, ot, 0 + 1, 0 + 6, hA, fun h => absurd h (by decide), by omega, by omega, ?_⟩
      refine xCatch (N := 6) (E := 1) (p := 15) (M2 := m_L_givenLetter) (pc2 := 5) (ls2 := [some (eR 0), some (eI x), some (eI y), some (eR 1)]) (st2 := [eI 0, eR 1]) (y := m_S_givenLetter) (as := [some (eR 0), some (eI x), some (eI y)]) (w2 := (([xO P, eA 3 1 ot]) ++ wCb 2 S, (0, 0))) rfl hs (by rfl) ?_
      refine xSeg (N := 2) (r := some (.inl (some (eI 1)), (([xO P, eA 3 1 ot]) ++ wCb 2 S, (0 + 1, 0 + 6)))) rfl ?_
      rfl
    · exact ⟨mk, _, fun h => absurd h (by decide), z_givenLetterX (mk := mk) (fr := fr) (P := P) (c := (0, 0)) hg hI rx ry h⟩
theorem q_sureLetter {a : eRow} (hI : iA a) {x y : Int} (rx : -2147483648 ≤ x ∧ x < 2147483648) (ry : -2147483648 ≤ y ∧ y < 2147483648) : ∃ t v : Int, (0 ≤ t ∧ t ≤ 2) ∧ LQ m_L_sureLetter [some (eI x), some (eI y)] a t v ∧ NQ m_M_sureLetter [some (eI x), some (eI y)] a t v := by
  have bG := hI.1.1
  by_cases h : inG (a 0) (a 1) x y = true
  · have h9 := of_decide_eq_true h
    obtain ⟨xn, hx⟩ : ∃ n : Nat, x = (n : Int) := ⟨x.toNat, by omega⟩
    obtain ⟨yn, hy⟩ : ∃ n : Nat, y = (n : Int) := ⟨y.toNat, by omega⟩
    refine ⟨0, ((suA a (6 * yn + xn) : Nat) : Int), by omega, fun P S ot hA => ?_, fun P g mk fr hg => ?_⟩
    · have hs := s_sureLetter (P := P) (ot := ot) (c := (0, 0)) hA hI hx hy (by omega) (by omega)
      obtain ⟨zv, hzv⟩ : ∃ zv : Int, zv = ((suA a (6 * yn + xn) : Nat) : Int) := ⟨_, rfl⟩
      rw [← hzv] at hs
      refine ⟨S, eUp ot 0 (wr zv), 0, 0, hA, fun _ => by rw [eUp_at, hzv], by omega, by omega, ?_⟩
      refine xCallW (N := 6) (M2 := m_L_sureLetter) (pc2 := 5) (ls2 := [some (eR 0), some (eI x), some (eI y), some (eR 1)]) (st2 := [eI 0, eR 1]) (y := m_S_sureLetter) (as := [some (eR 0), some (eI x), some (eI y)]) (w2 := (([xO P, eA 3 1 ot]) ++ wCb 2 S, (0, 0))) rfl hs ?_
      refine xLd (N := 2) (n := 1) (i := 0) (F := fun zq => ev m_L_sureLetter 10 [some (eR 0), some (eI x), some (eI y), some (eR 1)] [] (([xO P, eA 3 1 (eUp ot zq (wr zv))]) ++ wCb 2 S, (0, 0))) (k := 0) rfl (show wr 0 = ((0 : Nat) : Int) by decide) (by omega) ?_
      refine xSeg (N := 3) (r := some (.inl (some (eI 0)), (([xO P, eA 3 1 (eUp ot 0 (wr zv))]) ++ wCb 2 S, (0, 0)))) rfl ?_
      rfl
    · exact ⟨mk, _, fun _ => rfl, z_sureLetter (mk := mk) (fr := fr) (P := P) (c := (0, 0)) hg hI hx hy (by omega) (by omega)⟩
  · have h : inG (a 0) (a 1) x y = false := by cases hb : inG (a 0) (a 1) x y with | false => rfl | true => exact absurd hb h
    refine ⟨1, 0, by omega, fun P S ot hA => ?_, fun P g mk fr hg => ?_⟩
    · have hs := s_sureLetterX (P := P) (ot := ot) (c := (0, 0)) hA hI rx ry h
      refine ⟨S, ot, 0 + 1, 0 + 6, hA, fun h => absurd h (by decide), by omega, by omega, ?_⟩
      refine xCatch (N := 6) (E := 1) (p := 15) (M2 := m_L_sureLetter) (pc2 := 5) (ls2 := [some (eR 0), some (eI x), some (eI y), some (eR 1)]) (st2 := [eI 0, eR 1]) (y := m_S_sureLetter) (as := [some (eR 0), some (eI x), some (eI y)]) (w2 := (([xO P, eA 3 1 ot]) ++ wCb 2 S, (0, 0))) rfl hs (by rfl) ?_
      refine xSeg (N := 2) (r := some (.inl (some (eI 1)), (([xO P, eA 3 1 ot]) ++ wCb 2 S, (0 + 1, 0 + 6)))) rfl ?_
      rfl
    · exact ⟨mk, _, fun h => absurd h (by decide), z_sureLetterX (mk := mk) (fr := fr) (P := P) (c := (0, 0)) hg hI rx ry h⟩
theorem q_slotAt0 {a : eRow} (hI : iA a) {x y z : Int} (rx : -2147483648 ≤ x ∧ x < 2147483648) (ry : -2147483648 ≤ y ∧ y < 2147483648) (hz : z = 0) : ∃ t v : Int, (0 ≤ t ∧ t ≤ 2) ∧ LQ m_L_slotAt [some (eI x), some (eI y), some (eI z)] a t v ∧ NQ m_M_slotAt [some (eI x), some (eI y), some (eI z)] a t v := by
  have bG := hI.1.1
  by_cases h : inG (a 0) (a 1) x y = true
  · have h9 := of_decide_eq_true h
    obtain ⟨xn, hx⟩ : ∃ n : Nat, x = (n : Int) := ⟨x.toNat, by omega⟩
    obtain ⟨yn, hy⟩ : ∃ n : Nat, y = (n : Int) := ⟨y.toNat, by omega⟩
    refine ⟨0, ((a (244 + (6 * yn + xn)) : Nat) : Int) - 1, by omega, fun P S ot hA => ?_, fun P g mk fr hg => ?_⟩
    · have hs := s_slotAt0 (P := P) (ot := ot) (c := (0, 0)) hA hI hx hy (by omega) (by omega) hz
      obtain ⟨zv, hzv⟩ : ∃ zv : Int, zv = ((a (244 + (6 * yn + xn)) : Nat) : Int) - 1 := ⟨_, rfl⟩
      rw [← hzv] at hs
      refine ⟨S, eUp ot 0 (wr zv), 0, 0, hA, fun _ => by rw [eUp_at, hzv], by omega, by omega, ?_⟩
      refine xCallW (N := 7) (M2 := m_L_slotAt) (pc2 := 7) (ls2 := [some (eR 0), some (eI x), some (eI y), some (eI z), some (eR 1)]) (st2 := [eI 0, eR 1]) (y := m_S_slotAt) (as := [some (eR 0), some (eI x), some (eI y), some (eI z)]) (w2 := (([xO P, eA 3 1 ot]) ++ wCb 2 S, (0, 0))) rfl hs ?_
      refine xLd (N := 2) (n := 1) (i := 0) (F := fun zq => ev m_L_slotAt 12 [some (eR 0), some (eI x), some (eI y), some (eI z), some (eR 1)] [] (([xO P, eA 3 1 (eUp ot zq (wr zv))]) ++ wCb 2 S, (0, 0))) (k := 0) rfl (show wr 0 = ((0 : Nat) : Int) by decide) (by omega) ?_
      refine xSeg (N := 3) (r := some (.inl (some (eI 0)), (([xO P, eA 3 1 (eUp ot 0 (wr zv))]) ++ wCb 2 S, (0, 0)))) rfl ?_
      rfl
    · exact ⟨mk, _, fun _ => rfl, z_slotAt0 (mk := mk) (fr := fr) (P := P) (c := (0, 0)) hg hI hx hy (by omega) (by omega) hz⟩
  · have h : inG (a 0) (a 1) x y = false := by cases hb : inG (a 0) (a 1) x y with | false => rfl | true => exact absurd hb h
    refine ⟨1, 0, by omega, fun P S ot hA => ?_, fun P g mk fr hg => ?_⟩
    · have hs := s_slotAtX (P := P) (ot := ot) (c := (0, 0)) hA hI (z := z) rx ry h
      refine ⟨S, ot, 0 + 1, 0 + 6, hA, fun h => absurd h (by decide), by omega, by omega, ?_⟩
      refine xCatch (N := 7) (E := 1) (p := 17) (M2 := m_L_slotAt) (pc2 := 7) (ls2 := [some (eR 0), some (eI x), some (eI y), some (eI z), some (eR 1)]) (st2 := [eI 0, eR 1]) (y := m_S_slotAt) (as := [some (eR 0), some (eI x), some (eI y), some (eI z)]) (w2 := (([xO P, eA 3 1 ot]) ++ wCb 2 S, (0, 0))) rfl hs (by rfl) ?_
      refine xSeg (N := 2) (r := some (.inl (some (eI 1)), (([xO P, eA 3 1 ot]) ++ wCb 2 S, (0 + 1, 0 + 6)))) rfl ?_
      rfl
    · exact ⟨mk, _, fun h => absurd h (by decide), z_slotAtX (mk := mk) (fr := fr) (P := P) (c := (0, 0)) hg hI (z := z) rx ry h⟩
theorem q_slotAt1 {a : eRow} (hI : iA a) {x y z : Int} (rx : -2147483648 ≤ x ∧ x < 2147483648) (ry : -2147483648 ≤ y ∧ y < 2147483648) (hz : z = 1) : ∃ t v : Int, (0 ≤ t ∧ t ≤ 2) ∧ LQ m_L_slotAt [some (eI x), some (eI y), some (eI z)] a t v ∧ NQ m_M_slotAt [some (eI x), some (eI y), some (eI z)] a t v := by
  have bG := hI.1.1
  by_cases h : inG (a 0) (a 1) x y = true
  · have h9 := of_decide_eq_true h
    obtain ⟨xn, hx⟩ : ∃ n : Nat, x = (n : Int) := ⟨x.toNat, by omega⟩
    obtain ⟨yn, hy⟩ : ∃ n : Nat, y = (n : Int) := ⟨y.toNat, by omega⟩
    refine ⟨0, ((a (280 + (6 * yn + xn)) : Nat) : Int) - 1, by omega, fun P S ot hA => ?_, fun P g mk fr hg => ?_⟩
    · have hs := s_slotAt1 (P := P) (ot := ot) (c := (0, 0)) hA hI hx hy (by omega) (by omega) hz
      obtain ⟨zv, hzv⟩ : ∃ zv : Int, zv = ((a (280 + (6 * yn + xn)) : Nat) : Int) - 1 := ⟨_, rfl⟩
      rw [← hzv] at hs
      refine ⟨S, eUp ot 0 (wr zv), 0, 0, hA, fun _ => by rw [eUp_at, hzv], by omega, by omega, ?_⟩
      refine xCallW (N := 7) (M2 := m_L_slotAt) (pc2 := 7) (ls2 := [some (eR 0), some (eI x), some (eI y), some (eI z), some (eR 1)]) (st2 := [eI 0, eR 1]) (y := m_S_slotAt) (as := [some (eR 0), some (eI x), some (eI y), some (eI z)]) (w2 := (([xO P, eA 3 1 ot]) ++ wCb 2 S, (0, 0))) rfl hs ?_
      refine xLd (N := 2) (n := 1) (i := 0) (F := fun zq => ev m_L_slotAt 12 [some (eR 0), some (eI x), some (eI y), some (eI z), some (eR 1)] [] (([xO P, eA 3 1 (eUp ot zq (wr zv))]) ++ wCb 2 S, (0, 0))) (k := 0) rfl (show wr 0 = ((0 : Nat) : Int) by decide) (by omega) ?_
      refine xSeg (N := 3) (r := some (.inl (some (eI 0)), (([xO P, eA 3 1 (eUp ot 0 (wr zv))]) ++ wCb 2 S, (0, 0)))) rfl ?_
      rfl
    · exact ⟨mk, _, fun _ => rfl, z_slotAt1 (mk := mk) (fr := fr) (P := P) (c := (0, 0)) hg hI hx hy (by omega) (by omega) hz⟩
  · have h : inG (a 0) (a 1) x y = false := by cases hb : inG (a 0) (a 1) x y with | false => rfl | true => exact absurd hb h
    refine ⟨1, 0, by omega, fun P S ot hA => ?_, fun P g mk fr hg => ?_⟩
    · have hs := s_slotAtX (P := P) (ot := ot) (c := (0, 0)) hA hI (z := z) rx ry h
      refine ⟨S, ot, 0 + 1, 0 + 6, hA, fun h => absurd h (by decide), by omega, by omega, ?_⟩
      refine xCatch (N := 7) (E := 1) (p := 17) (M2 := m_L_slotAt) (pc2 := 7) (ls2 := [some (eR 0), some (eI x), some (eI y), some (eI z), some (eR 1)]) (st2 := [eI 0, eR 1]) (y := m_S_slotAt) (as := [some (eR 0), some (eI x), some (eI y), some (eI z)]) (w2 := (([xO P, eA 3 1 ot]) ++ wCb 2 S, (0, 0))) rfl hs (by rfl) ?_
      refine xSeg (N := 2) (r := some (.inl (some (eI 1)), (([xO P, eA 3 1 ot]) ++ wCb 2 S, (0 + 1, 0 + 6)))) rfl ?_
      rfl
    · exact ⟨mk, _, fun h => absurd h (by decide), z_slotAtX (mk := mk) (fr := fr) (P := P) (c := (0, 0)) hg hI (z := z) rx ry h⟩
theorem q_firstX {a : eRow} (hI : iA a) {x : Int} (rx : -2147483648 ≤ x ∧ x < 2147483648) : ∃ t v : Int, (0 ≤ t ∧ t ≤ 2) ∧ LQ m_L_firstX [some (eI x)] a t v ∧ NQ m_M_firstX [some (eI x)] a t v := by
  by_cases h : 0 ≤ x ∧ x < (a 3 : Int)
  · obtain ⟨k, hx⟩ : ∃ n : Nat, x = (n : Int) := ⟨x.toNat, by omega⟩
    have h1 : k < a 3 := by omega
    refine ⟨0, ((sx a k : Nat) : Int), by omega, fun P S ot hA => ?_, fun P g mk fr hg => ?_⟩
    · have hs := s_firstX (P := P) (ot := ot) (c := (0, 0)) hA hI hx h1
      obtain ⟨zv, hzv⟩ : ∃ zv : Int, zv = ((sx a k : Nat) : Int) := ⟨_, rfl⟩
      rw [← hzv] at hs
      refine ⟨S, eUp ot 0 (wr zv), 0, 0, hA, fun _ => by rw [eUp_at, hzv], by omega, by omega, ?_⟩
      refine xCallW (N := 5) (M2 := m_L_firstX) (pc2 := 4) (ls2 := [some (eR 0), some (eI x), some (eR 1)]) (st2 := [eI 0, eR 1]) (y := m_S_firstX) (as := [some (eR 0), some (eI x)]) (w2 := (([xO P, eA 3 1 ot]) ++ wCb 2 S, (0, 0))) rfl hs ?_
      refine xLd (N := 2) (n := 1) (i := 0) (F := fun zq => ev m_L_firstX 9 [some (eR 0), some (eI x), some (eR 1)] [] (([xO P, eA 3 1 (eUp ot zq (wr zv))]) ++ wCb 2 S, (0, 0))) (k := 0) rfl (show wr 0 = ((0 : Nat) : Int) by decide) (by omega) ?_
      refine xSeg (N := 3) (r := some (.inl (some (eI 0)), (([xO P, eA 3 1 (eUp ot 0 (wr zv))]) ++ wCb 2 S, (0, 0)))) rfl ?_
      rfl
    · exact ⟨mk, _, fun _ => rfl, z_firstX (mk := mk) (fr := fr) (P := P) (c := (0, 0)) hg hI hx h1⟩
  · refine ⟨1, 0, by omega, fun P S ot hA => ?_, fun P g mk fr hg => ?_⟩
    · have hs := s_firstXX (P := P) (ot := ot) (c := (0, 0)) hA hI rx h
      refine ⟨S, ot, 0 + 1, 0 + 6, hA, fun h => absurd h (by decide), by omega, by omega, ?_⟩
      refine xCatch (N := 5) (E := 2) (p := 13) (M2 := m_L_firstX) (pc2 := 4) (ls2 := [some (eR 0), some (eI x), some (eR 1)]) (st2 := [eI 0, eR 1]) (y := m_S_firstX) (as := [some (eR 0), some (eI x)]) (w2 := (([xO P, eA 3 1 ot]) ++ wCb 2 S, (0, 0))) rfl hs (by rfl) ?_
      refine xSeg (N := 2) (r := some (.inl (some (eI 1)), (([xO P, eA 3 1 ot]) ++ wCb 2 S, (0 + 1, 0 + 6)))) rfl ?_
      rfl
    · exact ⟨mk, _, fun h => absurd h (by decide), z_firstXX (mk := mk) (fr := fr) (P := P) (c := (0, 0)) hg hI rx h⟩
theorem q_firstY {a : eRow} (hI : iA a) {x : Int} (rx : -2147483648 ≤ x ∧ x < 2147483648) : ∃ t v : Int, (0 ≤ t ∧ t ≤ 2) ∧ LQ m_L_firstY [some (eI x)] a t v ∧ NQ m_M_firstY [some (eI x)] a t v := by
  by_cases h : 0 ≤ x ∧ x < (a 3 : Int)
  · obtain ⟨k, hx⟩ : ∃ n : Nat, x = (n : Int) := ⟨x.toNat, by omega⟩
    have h1 : k < a 3 := by omega
    refine ⟨0, ((sy a k : Nat) : Int), by omega, fun P S ot hA => ?_, fun P g mk fr hg => ?_⟩
    · have hs := s_firstY (P := P) (ot := ot) (c := (0, 0)) hA hI hx h1
      obtain ⟨zv, hzv⟩ : ∃ zv : Int, zv = ((sy a k : Nat) : Int) := ⟨_, rfl⟩
      rw [← hzv] at hs
      refine ⟨S, eUp ot 0 (wr zv), 0, 0, hA, fun _ => by rw [eUp_at, hzv], by omega, by omega, ?_⟩
      refine xCallW (N := 5) (M2 := m_L_firstY) (pc2 := 4) (ls2 := [some (eR 0), some (eI x), some (eR 1)]) (st2 := [eI 0, eR 1]) (y := m_S_firstY) (as := [some (eR 0), some (eI x)]) (w2 := (([xO P, eA 3 1 ot]) ++ wCb 2 S, (0, 0))) rfl hs ?_
      refine xLd (N := 2) (n := 1) (i := 0) (F := fun zq => ev m_L_firstY 9 [some (eR 0), some (eI x), some (eR 1)] [] (([xO P, eA 3 1 (eUp ot zq (wr zv))]) ++ wCb 2 S, (0, 0))) (k := 0) rfl (show wr 0 = ((0 : Nat) : Int) by decide) (by omega) ?_
      refine xSeg (N := 3) (r := some (.inl (some (eI 0)), (([xO P, eA 3 1 (eUp ot 0 (wr zv))]) ++ wCb 2 S, (0, 0)))) rfl ?_
      rfl
    · exact ⟨mk, _, fun _ => rfl, z_firstY (mk := mk) (fr := fr) (P := P) (c := (0, 0)) hg hI hx h1⟩
  · refine ⟨1, 0, by omega, fun P S ot hA => ?_, fun P g mk fr hg => ?_⟩
    · have hs := s_firstYX (P := P) (ot := ot) (c := (0, 0)) hA hI rx h
      refine ⟨S, ot, 0 + 1, 0 + 6, hA, fun h => absurd h (by decide), by omega, by omega, ?_⟩
      refine xCatch (N := 5) (E := 2) (p := 13) (M2 := m_L_firstY) (pc2 := 4) (ls2 := [some (eR 0), some (eI x), some (eR 1)]) (st2 := [eI 0, eR 1]) (y := m_S_firstY) (as := [some (eR 0), some (eI x)]) (w2 := (([xO P, eA 3 1 ot]) ++ wCb 2 S, (0, 0))) rfl hs (by rfl) ?_
      refine xSeg (N := 2) (r := some (.inl (some (eI 1)), (([xO P, eA 3 1 ot]) ++ wCb 2 S, (0 + 1, 0 + 6)))) rfl ?_
      rfl
    · exact ⟨mk, _, fun h => absurd h (by decide), z_firstYX (mk := mk) (fr := fr) (P := P) (c := (0, 0)) hg hI rx h⟩
theorem q_lengthOf {a : eRow} (hI : iA a) {x : Int} (rx : -2147483648 ≤ x ∧ x < 2147483648) : ∃ t v : Int, (0 ≤ t ∧ t ≤ 2) ∧ LQ m_L_lengthOf [some (eI x)] a t v ∧ NQ m_M_lengthOf [some (eI x)] a t v := by
  by_cases h : 0 ≤ x ∧ x < (a 3 : Int)
  · obtain ⟨k, hx⟩ : ∃ n : Nat, x = (n : Int) := ⟨x.toNat, by omega⟩
    have h1 : k < a 3 := by omega
    refine ⟨0, ((sl a k : Nat) : Int), by omega, fun P S ot hA => ?_, fun P g mk fr hg => ?_⟩
    · have hs := s_lengthOf (P := P) (ot := ot) (c := (0, 0)) hA hI hx h1
      obtain ⟨zv, hzv⟩ : ∃ zv : Int, zv = ((sl a k : Nat) : Int) := ⟨_, rfl⟩
      rw [← hzv] at hs
      refine ⟨S, eUp ot 0 (wr zv), 0, 0, hA, fun _ => by rw [eUp_at, hzv], by omega, by omega, ?_⟩
      refine xCallW (N := 5) (M2 := m_L_lengthOf) (pc2 := 4) (ls2 := [some (eR 0), some (eI x), some (eR 1)]) (st2 := [eI 0, eR 1]) (y := m_S_lengthOf) (as := [some (eR 0), some (eI x)]) (w2 := (([xO P, eA 3 1 ot]) ++ wCb 2 S, (0, 0))) rfl hs ?_
      refine xLd (N := 2) (n := 1) (i := 0) (F := fun zq => ev m_L_lengthOf 9 [some (eR 0), some (eI x), some (eR 1)] [] (([xO P, eA 3 1 (eUp ot zq (wr zv))]) ++ wCb 2 S, (0, 0))) (k := 0) rfl (show wr 0 = ((0 : Nat) : Int) by decide) (by omega) ?_
      refine xSeg (N := 3) (r := some (.inl (some (eI 0)), (([xO P, eA 3 1 (eUp ot 0 (wr zv))]) ++ wCb 2 S, (0, 0)))) rfl ?_
      rfl
    · exact ⟨mk, _, fun _ => rfl, z_lengthOf (mk := mk) (fr := fr) (P := P) (c := (0, 0)) hg hI hx h1⟩
  · refine ⟨1, 0, by omega, fun P S ot hA => ?_, fun P g mk fr hg => ?_⟩
    · have hs := s_lengthOfX (P := P) (ot := ot) (c := (0, 0)) hA hI rx h
      refine ⟨S, ot, 0 + 1, 0 + 6, hA, fun h => absurd h (by decide), by omega, by omega, ?_⟩
      refine xCatch (N := 5) (E := 2) (p := 13) (M2 := m_L_lengthOf) (pc2 := 4) (ls2 := [some (eR 0), some (eI x), some (eR 1)]) (st2 := [eI 0, eR 1]) (y := m_S_lengthOf) (as := [some (eR 0), some (eI x)]) (w2 := (([xO P, eA 3 1 ot]) ++ wCb 2 S, (0, 0))) rfl hs (by rfl) ?_
      refine xSeg (N := 2) (r := some (.inl (some (eI 1)), (([xO P, eA 3 1 ot]) ++ wCb 2 S, (0 + 1, 0 + 6)))) rfl ?_
      rfl
    · exact ⟨mk, _, fun h => absurd h (by decide), z_lengthOfX (mk := mk) (fr := fr) (P := P) (c := (0, 0)) hg hI rx h⟩
theorem q_isDown {a : eRow} (hI : iA a) {x : Int} (rx : -2147483648 ≤ x ∧ x < 2147483648) : ∃ t v : Int, (0 ≤ t ∧ t ≤ 2) ∧ (t = 0 → v = 1 ∨ v = 0) ∧ LQ m_L_isDown [some (eI x)] a t v ∧ NQ m_M_isDown [some (eI x)] a t v := by
  by_cases h : 0 ≤ x ∧ x < (a 3 : Int)
  · obtain ⟨k, hx⟩ : ∃ n : Nat, x = (n : Int) := ⟨x.toNat, by omega⟩
    have h1 : k < a 3 := by omega
    refine ⟨0, ((sd a k : Nat) : Int), by omega, (fun _ => bl01 rfl (Or.inr (by have := (sl_at hI.1 h1).1; omega))), fun P S ot hA => ?_, fun P g mk fr hg => ?_⟩
    · have hs := s_isDown (P := P) (ot := ot) (c := (0, 0)) hA hI hx h1
      obtain ⟨zv, hzv⟩ : ∃ zv : Int, zv = ((sd a k : Nat) : Int) := ⟨_, rfl⟩
      rw [← hzv] at hs
      have hz := bl01 hzv (Or.inr (by have := (sl_at hI.1 h1).1; omega))
      rcases hz with hz | hz
      · refine ⟨S, eUp ot 0 1, 0, 0, hA, fun _ => by rw [eUp_at, ← hzv, hz]; rfl, by omega, by omega, ?_⟩
        refine xCallW (N := 5) (M2 := m_L_isDown) (pc2 := 4) (ls2 := [some (eR 0), some (eI x), some (eR 1)]) (st2 := [eI 0, eR 1]) (y := m_S_isDown) (as := [some (eR 0), some (eI x)]) (w2 := (([xO P, eA 3 1 ot]) ++ wCb 2 S, (0, 0))) rfl hs ?_
        refine xEqF (N := 1) (x := zv) (y := 0) (A := ev m_L_isDown 14 [some (eR 0), some (eI x), some (eR 1)] [eI 0, eR 1] (([xO P, eA 3 1 ot]) ++ wCb 2 S, (0, 0))) (B := ev m_L_isDown 10 [some (eR 0), some (eI x), some (eR 1)] [eI 0, eR 1] (([xO P, eA 3 1 ot]) ++ wCb 2 S, (0, 0))) rfl (wr_id (by omega) (by omega)) (show wr 0 = 0 by decide) (by omega) ?_
        refine xLd (N := 3) (n := 1) (i := 0) (F := fun zq => ev m_L_isDown 16 [some (eR 0), some (eI x), some (eR 1)] [] (([xO P, eA 3 1 (eUp ot zq 1)]) ++ wCb 2 S, (0, 0))) (k := 0) rfl (show wr 0 = ((0 : Nat) : Int) by decide) (by omega) ?_
        refine xSeg (N := 3) (r := some (.inl (some (eI 0)), (([xO P, eA 3 1 (eUp ot 0 1)]) ++ wCb 2 S, (0, 0)))) rfl ?_
        rfl
      · refine ⟨S, eUp ot 0 0, 0, 0, hA, fun _ => by rw [eUp_at, ← hzv, hz]; rfl, by omega, by omega, ?_⟩
        refine xCallW (N := 5) (M2 := m_L_isDown) (pc2 := 4) (ls2 := [some (eR 0), some (eI x), some (eR 1)]) (st2 := [eI 0, eR 1]) (y := m_S_isDown) (as := [some (eR 0), some (eI x)]) (w2 := (([xO P, eA 3 1 ot]) ++ wCb 2 S, (0, 0))) rfl hs ?_
        refine xEqT (N := 1) (x := zv) (y := 0) (A := ev m_L_isDown 14 [some (eR 0), some (eI x), some (eR 1)] [eI 0, eR 1] (([xO P, eA 3 1 ot]) ++ wCb 2 S, (0, 0))) (B := ev m_L_isDown 10 [some (eR 0), some (eI x), some (eR 1)] [eI 0, eR 1] (([xO P, eA 3 1 ot]) ++ wCb 2 S, (0, 0))) rfl (wr_id (by omega) (by omega)) (show wr 0 = 0 by decide) (by omega) ?_
        refine xLd (N := 2) (n := 1) (i := 0) (F := fun zq => ev m_L_isDown 16 [some (eR 0), some (eI x), some (eR 1)] [] (([xO P, eA 3 1 (eUp ot zq 0)]) ++ wCb 2 S, (0, 0))) (k := 0) rfl (show wr 0 = ((0 : Nat) : Int) by decide) (by omega) ?_
        refine xSeg (N := 3) (r := some (.inl (some (eI 0)), (([xO P, eA 3 1 (eUp ot 0 0)]) ++ wCb 2 S, (0, 0)))) rfl ?_
        rfl
    · exact ⟨mk, _, fun _ => rfl, z_isDown (mk := mk) (fr := fr) (P := P) (c := (0, 0)) hg hI hx h1⟩
  · refine ⟨1, 0, by omega, fun _ => Or.inr rfl, fun P S ot hA => ?_, fun P g mk fr hg => ?_⟩
    · have hs := s_isDownX (P := P) (ot := ot) (c := (0, 0)) hA hI rx h
      refine ⟨S, ot, 0 + 1, 0 + 6, hA, fun h => absurd h (by decide), by omega, by omega, ?_⟩
      refine xCatch (N := 5) (E := 2) (p := 20) (M2 := m_L_isDown) (pc2 := 4) (ls2 := [some (eR 0), some (eI x), some (eR 1)]) (st2 := [eI 0, eR 1]) (y := m_S_isDown) (as := [some (eR 0), some (eI x)]) (w2 := (([xO P, eA 3 1 ot]) ++ wCb 2 S, (0, 0))) rfl hs (by rfl) ?_
      refine xSeg (N := 2) (r := some (.inl (some (eI 1)), (([xO P, eA 3 1 ot]) ++ wCb 2 S, (0 + 1, 0 + 6)))) rfl ?_
      rfl
    · exact ⟨mk, _, fun h => absurd h (by decide), z_isDownX (mk := mk) (fr := fr) (P := P) (c := (0, 0)) hg hI rx h⟩
theorem q_crossingCount {a : eRow} (hI : iA a) {x : Int} (rx : -2147483648 ≤ x ∧ x < 2147483648) : ∃ t v : Int, (0 ≤ t ∧ t ≤ 2) ∧ LQ m_L_crossingCount [some (eI x)] a t v ∧ NQ m_M_crossingCount [some (eI x)] a t v := by
  by_cases h : 0 ≤ x ∧ x < (a 3 : Int)
  · obtain ⟨k, hx⟩ : ∃ n : Nat, x = (n : Int) := ⟨x.toNat, by omega⟩
    have h1 : k < a 3 := by omega
    refine ⟨0, ((fb_ct (fun p => decide (oth a k p ≠ 0)) (sl a k) : Nat) : Int), by omega, fun P S ot hA => ?_, fun P g mk fr hg => ?_⟩
    · have hs := s_crossingCount (P := P) (ot := ot) (c := (0, 0)) hA hI hx h1
      obtain ⟨zv, hzv⟩ : ∃ zv : Int, zv = ((fb_ct (fun p => decide (oth a k p ≠ 0)) (sl a k) : Nat) : Int) := ⟨_, rfl⟩
      rw [← hzv] at hs
      refine ⟨S, eUp ot 0 (wr zv), 0, 0, hA, fun _ => by rw [eUp_at, hzv], by omega, by omega, ?_⟩
      refine xCallW (N := 5) (M2 := m_L_crossingCount) (pc2 := 4) (ls2 := [some (eR 0), some (eI x), some (eR 1)]) (st2 := [eI 0, eR 1]) (y := m_S_crossingCount) (as := [some (eR 0), some (eI x)]) (w2 := (([xO P, eA 3 1 ot]) ++ wCb 2 S, (0, 0))) rfl hs ?_
      refine xLd (N := 2) (n := 1) (i := 0) (F := fun zq => ev m_L_crossingCount 9 [some (eR 0), some (eI x), some (eR 1)] [] (([xO P, eA 3 1 (eUp ot zq (wr zv))]) ++ wCb 2 S, (0, 0))) (k := 0) rfl (show wr 0 = ((0 : Nat) : Int) by decide) (by omega) ?_
      refine xSeg (N := 3) (r := some (.inl (some (eI 0)), (([xO P, eA 3 1 (eUp ot 0 (wr zv))]) ++ wCb 2 S, (0, 0)))) rfl ?_
      rfl
    · exact ⟨mk, _, fun _ => rfl, z_crossingCount (mk := mk) (fr := fr) (P := P) (c := (0, 0)) hg hI hx h1⟩
  · refine ⟨1, 0, by omega, fun P S ot hA => ?_, fun P g mk fr hg => ?_⟩
    · have hs := s_crossingCountX (P := P) (ot := ot) (c := (0, 0)) hA hI rx h
      refine ⟨S, ot, 0 + 1, 0 + 6, hA, fun h => absurd h (by decide), by omega, by omega, ?_⟩
      refine xCatch (N := 5) (E := 2) (p := 13) (M2 := m_L_crossingCount) (pc2 := 4) (ls2 := [some (eR 0), some (eI x), some (eR 1)]) (st2 := [eI 0, eR 1]) (y := m_S_crossingCount) (as := [some (eR 0), some (eI x)]) (w2 := (([xO P, eA 3 1 ot]) ++ wCb 2 S, (0, 0))) rfl hs (by rfl) ?_
      refine xSeg (N := 2) (r := some (.inl (some (eI 1)), (([xO P, eA 3 1 ot]) ++ wCb 2 S, (0 + 1, 0 + 6)))) rfl ?_
      rfl
    · exact ⟨mk, _, fun h => absurd h (by decide), z_crossingCountX (mk := mk) (fr := fr) (P := P) (c := (0, 0)) hg hI rx h⟩
theorem q_candidateCount {a : eRow} (hI : iA a) {x : Int} (rx : -2147483648 ≤ x ∧ x < 2147483648) : ∃ t v : Int, (0 ≤ t ∧ t ≤ 2) ∧ LQ m_L_candidateCount [some (eI x)] a t v ∧ NQ m_M_candidateCount [some (eI x)] a t v := by
  by_cases h : 0 ≤ x ∧ x < (a 3 : Int)
  · obtain ⟨k, hx⟩ : ∃ n : Nat, x = (n : Int) := ⟨x.toNat, by omega⟩
    have h1 : k < a 3 := by omega
    refine ⟨0, ((pc 30 (op a k) : Nat) : Int), by omega, fun P S ot hA => ?_, fun P g mk fr hg => ?_⟩
    · have hs := s_candidateCount (P := P) (ot := ot) (c := (0, 0)) hA hI hx h1
      obtain ⟨zv, hzv⟩ : ∃ zv : Int, zv = ((pc 30 (op a k) : Nat) : Int) := ⟨_, rfl⟩
      rw [← hzv] at hs
      refine ⟨S, eUp ot 0 (wr zv), 0, 0, hA, fun _ => by rw [eUp_at, hzv], by omega, by omega, ?_⟩
      refine xCallW (N := 5) (M2 := m_L_candidateCount) (pc2 := 4) (ls2 := [some (eR 0), some (eI x), some (eR 1)]) (st2 := [eI 0, eR 1]) (y := m_S_candidateCount) (as := [some (eR 0), some (eI x)]) (w2 := (([xO P, eA 3 1 ot]) ++ wCb 2 S, (0, 0))) rfl hs ?_
      refine xLd (N := 2) (n := 1) (i := 0) (F := fun zq => ev m_L_candidateCount 9 [some (eR 0), some (eI x), some (eR 1)] [] (([xO P, eA 3 1 (eUp ot zq (wr zv))]) ++ wCb 2 S, (0, 0))) (k := 0) rfl (show wr 0 = ((0 : Nat) : Int) by decide) (by omega) ?_
      refine xSeg (N := 3) (r := some (.inl (some (eI 0)), (([xO P, eA 3 1 (eUp ot 0 (wr zv))]) ++ wCb 2 S, (0, 0)))) rfl ?_
      rfl
    · exact ⟨mk, _, fun _ => rfl, z_candidateCount (mk := mk) (fr := fr) (P := P) (c := (0, 0)) hg hI hx h1⟩
  · refine ⟨1, 0, by omega, fun P S ot hA => ?_, fun P g mk fr hg => ?_⟩
    · have hs := s_candidateCountX (P := P) (ot := ot) (c := (0, 0)) hA hI rx h
      refine ⟨S, ot, 0 + 1, 0 + 6, hA, fun h => absurd h (by decide), by omega, by omega, ?_⟩
      refine xCatch (N := 5) (E := 2) (p := 13) (M2 := m_L_candidateCount) (pc2 := 4) (ls2 := [some (eR 0), some (eI x), some (eR 1)]) (st2 := [eI 0, eR 1]) (y := m_S_candidateCount) (as := [some (eR 0), some (eI x)]) (w2 := (([xO P, eA 3 1 ot]) ++ wCb 2 S, (0, 0))) rfl hs (by rfl) ?_
      refine xSeg (N := 2) (r := some (.inl (some (eI 1)), (([xO P, eA 3 1 ot]) ++ wCb 2 S, (0 + 1, 0 + 6)))) rfl ?_
      rfl
    · exact ⟨mk, _, fun h => absurd h (by decide), z_candidateCountX (mk := mk) (fr := fr) (P := P) (c := (0, 0)) hg hI rx h⟩
theorem q_bestWord {a : eRow} (hI : iA a) {x : Int} (rx : -2147483648 ≤ x ∧ x < 2147483648) : ∃ t v : Int, (0 ≤ t ∧ t ≤ 2) ∧ LQ m_L_bestWord [some (eI x)] a t v ∧ NQ m_M_bestWord [some (eI x)] a t v := by
  by_cases h : 0 ≤ x ∧ x < (a 3 : Int)
  · obtain ⟨k, hx⟩ : ∃ n : Nat, x = (n : Int) := ⟨x.toNat, by omega⟩
    have h1 : k < a 3 := by omega
    refine ⟨0, (bwA (op a k).testBit (wp a) (a 2)).1, by omega, fun P S ot hA => ?_, fun P g mk fr hg => ?_⟩
    · have hs := s_bestWord (P := P) (ot := ot) (c := (0, 0)) hA hI hx h1
      obtain ⟨zv, hzv⟩ : ∃ zv : Int, zv = (bwA (op a k).testBit (wp a) (a 2)).1 := ⟨_, rfl⟩
      rw [← hzv] at hs
      refine ⟨S, eUp ot 0 (wr zv), 0, 0, hA, fun _ => by rw [eUp_at, hzv], by omega, by omega, ?_⟩
      refine xCallW (N := 5) (M2 := m_L_bestWord) (pc2 := 4) (ls2 := [some (eR 0), some (eI x), some (eR 1)]) (st2 := [eI 0, eR 1]) (y := m_S_bestWord) (as := [some (eR 0), some (eI x)]) (w2 := (([xO P, eA 3 1 ot]) ++ wCb 2 S, (0, 0))) rfl hs ?_
      refine xLd (N := 2) (n := 1) (i := 0) (F := fun zq => ev m_L_bestWord 9 [some (eR 0), some (eI x), some (eR 1)] [] (([xO P, eA 3 1 (eUp ot zq (wr zv))]) ++ wCb 2 S, (0, 0))) (k := 0) rfl (show wr 0 = ((0 : Nat) : Int) by decide) (by omega) ?_
      refine xSeg (N := 3) (r := some (.inl (some (eI 0)), (([xO P, eA 3 1 (eUp ot 0 (wr zv))]) ++ wCb 2 S, (0, 0)))) rfl ?_
      rfl
    · exact ⟨mk, _, fun _ => rfl, z_bestWord (mk := mk) (fr := fr) (P := P) (c := (0, 0)) hg hI hx h1⟩
  · refine ⟨1, 0, by omega, fun P S ot hA => ?_, fun P g mk fr hg => ?_⟩
    · have hs := s_bestWordX (P := P) (ot := ot) (c := (0, 0)) hA hI rx h
      refine ⟨S, ot, 0 + 1, 0 + 6, hA, fun h => absurd h (by decide), by omega, by omega, ?_⟩
      refine xCatch (N := 5) (E := 2) (p := 13) (M2 := m_L_bestWord) (pc2 := 4) (ls2 := [some (eR 0), some (eI x), some (eR 1)]) (st2 := [eI 0, eR 1]) (y := m_S_bestWord) (as := [some (eR 0), some (eI x)]) (w2 := (([xO P, eA 3 1 ot]) ++ wCb 2 S, (0, 0))) rfl hs (by rfl) ?_
      refine xSeg (N := 2) (r := some (.inl (some (eI 1)), (([xO P, eA 3 1 ot]) ++ wCb 2 S, (0 + 1, 0 + 6)))) rfl ?_
      rfl
    · exact ⟨mk, _, fun h => absurd h (by decide), z_bestWordX (mk := mk) (fr := fr) (P := P) (c := (0, 0)) hg hI rx h⟩
theorem q_wordLength {a : eRow} (hI : iA a) {x : Int} (rx : -2147483648 ≤ x ∧ x < 2147483648) : ∃ t v : Int, (0 ≤ t ∧ t ≤ 2) ∧ LQ m_L_wordLength [some (eI x)] a t v ∧ NQ m_M_wordLength [some (eI x)] a t v := by
  by_cases h : 0 ≤ x ∧ x < (a 2 : Int)
  · obtain ⟨w, hx⟩ : ∃ n : Nat, x = (n : Int) := ⟨x.toNat, by omega⟩
    have h1 : w < a 2 := by omega
    refine ⟨0, ((wl a w : Nat) : Int), by omega, fun P S ot hA => ?_, fun P g mk fr hg => ?_⟩
    · have hs := s_wordLength (P := P) (ot := ot) (c := (0, 0)) hA hI hx h1
      obtain ⟨zv, hzv⟩ : ∃ zv : Int, zv = ((wl a w : Nat) : Int) := ⟨_, rfl⟩
      rw [← hzv] at hs
      refine ⟨S, eUp ot 0 (wr zv), 0, 0, hA, fun _ => by rw [eUp_at, hzv], by omega, by omega, ?_⟩
      refine xCallW (N := 5) (M2 := m_L_wordLength) (pc2 := 4) (ls2 := [some (eR 0), some (eI x), some (eR 1)]) (st2 := [eI 0, eR 1]) (y := m_S_wordLength) (as := [some (eR 0), some (eI x)]) (w2 := (([xO P, eA 3 1 ot]) ++ wCb 2 S, (0, 0))) rfl hs ?_
      refine xLd (N := 2) (n := 1) (i := 0) (F := fun zq => ev m_L_wordLength 9 [some (eR 0), some (eI x), some (eR 1)] [] (([xO P, eA 3 1 (eUp ot zq (wr zv))]) ++ wCb 2 S, (0, 0))) (k := 0) rfl (show wr 0 = ((0 : Nat) : Int) by decide) (by omega) ?_
      refine xSeg (N := 3) (r := some (.inl (some (eI 0)), (([xO P, eA 3 1 (eUp ot 0 (wr zv))]) ++ wCb 2 S, (0, 0)))) rfl ?_
      rfl
    · exact ⟨mk, _, fun _ => rfl, z_wordLength (mk := mk) (fr := fr) (P := P) (c := (0, 0)) hg hI hx h1⟩
  · refine ⟨1, 0, by omega, fun P S ot hA => ?_, fun P g mk fr hg => ?_⟩
    · have hs := s_wordLengthX (P := P) (ot := ot) (c := (0, 0)) hA hI rx h
      refine ⟨S, ot, 0 + 1, 0 + 6, hA, fun h => absurd h (by decide), by omega, by omega, ?_⟩
      refine xCatch (N := 5) (E := 2) (p := 13) (M2 := m_L_wordLength) (pc2 := 4) (ls2 := [some (eR 0), some (eI x), some (eR 1)]) (st2 := [eI 0, eR 1]) (y := m_S_wordLength) (as := [some (eR 0), some (eI x)]) (w2 := (([xO P, eA 3 1 ot]) ++ wCb 2 S, (0, 0))) rfl hs (by rfl) ?_
      refine xSeg (N := 2) (r := some (.inl (some (eI 1)), (([xO P, eA 3 1 ot]) ++ wCb 2 S, (0 + 1, 0 + 6)))) rfl ?_
      rfl
    · exact ⟨mk, _, fun h => absurd h (by decide), z_wordLengthX (mk := mk) (fr := fr) (P := P) (c := (0, 0)) hg hI rx h⟩
theorem q_prizeOf {a : eRow} (hI : iA a) {x : Int} (rx : -2147483648 ≤ x ∧ x < 2147483648) : ∃ t v : Int, (0 ≤ t ∧ t ≤ 2) ∧ LQ m_L_prizeOf [some (eI x)] a t v ∧ NQ m_M_prizeOf [some (eI x)] a t v := by
  by_cases h : 0 ≤ x ∧ x < (a 2 : Int)
  · obtain ⟨w, hx⟩ : ∃ n : Nat, x = (n : Int) := ⟨x.toNat, by omega⟩
    have h1 : w < a 2 := by omega
    refine ⟨0, ((wp a w : Nat) : Int), by omega, fun P S ot hA => ?_, fun P g mk fr hg => ?_⟩
    · have hs := s_prizeOf (P := P) (ot := ot) (c := (0, 0)) hA hI hx h1
      obtain ⟨zv, hzv⟩ : ∃ zv : Int, zv = ((wp a w : Nat) : Int) := ⟨_, rfl⟩
      rw [← hzv] at hs
      refine ⟨S, eUp ot 0 (wr zv), 0, 0, hA, fun _ => by rw [eUp_at, hzv], by omega, by omega, ?_⟩
      refine xCallW (N := 5) (M2 := m_L_prizeOf) (pc2 := 4) (ls2 := [some (eR 0), some (eI x), some (eR 1)]) (st2 := [eI 0, eR 1]) (y := m_S_prizeOf) (as := [some (eR 0), some (eI x)]) (w2 := (([xO P, eA 3 1 ot]) ++ wCb 2 S, (0, 0))) rfl hs ?_
      refine xLd (N := 2) (n := 1) (i := 0) (F := fun zq => ev m_L_prizeOf 9 [some (eR 0), some (eI x), some (eR 1)] [] (([xO P, eA 3 1 (eUp ot zq (wr zv))]) ++ wCb 2 S, (0, 0))) (k := 0) rfl (show wr 0 = ((0 : Nat) : Int) by decide) (by omega) ?_
      refine xSeg (N := 3) (r := some (.inl (some (eI 0)), (([xO P, eA 3 1 (eUp ot 0 (wr zv))]) ++ wCb 2 S, (0, 0)))) rfl ?_
      rfl
    · exact ⟨mk, _, fun _ => rfl, z_prizeOf (mk := mk) (fr := fr) (P := P) (c := (0, 0)) hg hI hx h1⟩
  · refine ⟨1, 0, by omega, fun P S ot hA => ?_, fun P g mk fr hg => ?_⟩
    · have hs := s_prizeOfX (P := P) (ot := ot) (c := (0, 0)) hA hI rx h
      refine ⟨S, ot, 0 + 1, 0 + 6, hA, fun h => absurd h (by decide), by omega, by omega, ?_⟩
      refine xCatch (N := 5) (E := 2) (p := 13) (M2 := m_L_prizeOf) (pc2 := 4) (ls2 := [some (eR 0), some (eI x), some (eR 1)]) (st2 := [eI 0, eR 1]) (y := m_S_prizeOf) (as := [some (eR 0), some (eI x)]) (w2 := (([xO P, eA 3 1 ot]) ++ wCb 2 S, (0, 0))) rfl hs (by rfl) ?_
      refine xSeg (N := 2) (r := some (.inl (some (eI 1)), (([xO P, eA 3 1 ot]) ++ wCb 2 S, (0 + 1, 0 + 6)))) rfl ?_
      rfl
    · exact ⟨mk, _, fun h => absurd h (by decide), z_prizeOfX (mk := mk) (fr := fr) (P := P) (c := (0, 0)) hg hI rx h⟩
theorem q_wordsWith {a : eRow} (hI : iA a) {x : Int} (rx : -2147483648 ≤ x ∧ x < 2147483648) : ∃ t v : Int, (0 ≤ t ∧ t ≤ 2) ∧ LQ m_L_wordsWith [some (eI x)] a t v ∧ NQ m_M_wordsWith [some (eI x)] a t v := by
  by_cases h : 97 ≤ x ∧ x ≤ 122
  · obtain ⟨l, hx⟩ : ∃ n : Nat, x = ((97 + n : Nat) : Int) := ⟨(x - 97).toNat, by omega⟩
    have h1 : l < 26 := by omega
    refine ⟨0, ((hold a l : Nat) : Int), by omega, fun P S ot hA => ?_, fun P g mk fr hg => ?_⟩
    · have hs := s_wordsWith (P := P) (ot := ot) (c := (0, 0)) hA hI hx h1
      obtain ⟨zv, hzv⟩ : ∃ zv : Int, zv = ((hold a l : Nat) : Int) := ⟨_, rfl⟩
      rw [← hzv] at hs
      refine ⟨S, eUp ot 0 (wr zv), 0, 0, hA, fun _ => by rw [eUp_at, hzv], by omega, by omega, ?_⟩
      refine xCallW (N := 5) (M2 := m_L_wordsWith) (pc2 := 4) (ls2 := [some (eR 0), some (eI x), some (eR 1)]) (st2 := [eI 0, eR 1]) (y := m_S_wordsWith) (as := [some (eR 0), some (eI x)]) (w2 := (([xO P, eA 3 1 ot]) ++ wCb 2 S, (0, 0))) rfl hs ?_
      refine xLd (N := 2) (n := 1) (i := 0) (F := fun zq => ev m_L_wordsWith 9 [some (eR 0), some (eI x), some (eR 1)] [] (([xO P, eA 3 1 (eUp ot zq (wr zv))]) ++ wCb 2 S, (0, 0))) (k := 0) rfl (show wr 0 = ((0 : Nat) : Int) by decide) (by omega) ?_
      refine xSeg (N := 3) (r := some (.inl (some (eI 0)), (([xO P, eA 3 1 (eUp ot 0 (wr zv))]) ++ wCb 2 S, (0, 0)))) rfl ?_
      rfl
    · exact ⟨mk, _, fun _ => rfl, z_wordsWith (mk := mk) (fr := fr) (P := P) (c := (0, 0)) hg hI hx h1⟩
  · refine ⟨1, 0, by omega, fun P S ot hA => ?_, fun P g mk fr hg => ?_⟩
    · have hs := s_wordsWithX (P := P) (ot := ot) (c := (0, 0)) hA hI rx h
      refine ⟨S, ot, 0 + 1, 0 + 6, hA, fun h => absurd h (by decide), by omega, by omega, ?_⟩
      refine xCatch (N := 5) (E := 1) (p := 13) (M2 := m_L_wordsWith) (pc2 := 4) (ls2 := [some (eR 0), some (eI x), some (eR 1)]) (st2 := [eI 0, eR 1]) (y := m_S_wordsWith) (as := [some (eR 0), some (eI x)]) (w2 := (([xO P, eA 3 1 ot]) ++ wCb 2 S, (0, 0))) rfl hs (by rfl) ?_
      refine xSeg (N := 2) (r := some (.inl (some (eI 1)), (([xO P, eA 3 1 ot]) ++ wCb 2 S, (0 + 1, 0 + 6)))) rfl ?_
      rfl
    · exact ⟨mk, _, fun h => absurd h (by decide), z_wordsWithX (mk := mk) (fr := fr) (P := P) (c := (0, 0)) hg hI rx h⟩
theorem q_prizeOfLetter {a : eRow} (hI : iA a) {x : Int} (rx : -2147483648 ≤ x ∧ x < 2147483648) : ∃ t v : Int, (0 ≤ t ∧ t ≤ 2) ∧ LQ m_L_prizeOfLetter [some (eI x)] a t v ∧ NQ m_M_prizeOfLetter [some (eI x)] a t v := by
  by_cases h : 97 ≤ x ∧ x ≤ 122
  · obtain ⟨l, hx⟩ : ∃ n : Nat, x = ((97 + n : Nat) : Int) := ⟨(x - 97).toNat, by omega⟩
    have h1 : l < 26 := by omega
    refine ⟨0, ((pz a l : Nat) : Int), by omega, fun P S ot hA => ?_, fun P g mk fr hg => ?_⟩
    · have hs := s_prizeOfLetter (P := P) (ot := ot) (c := (0, 0)) hA hI hx h1
      obtain ⟨zv, hzv⟩ : ∃ zv : Int, zv = ((pz a l : Nat) : Int) := ⟨_, rfl⟩
      rw [← hzv] at hs
      refine ⟨S, eUp ot 0 (wr zv), 0, 0, hA, fun _ => by rw [eUp_at, hzv], by omega, by omega, ?_⟩
      refine xCallW (N := 5) (M2 := m_L_prizeOfLetter) (pc2 := 4) (ls2 := [some (eR 0), some (eI x), some (eR 1)]) (st2 := [eI 0, eR 1]) (y := m_S_prizeOfLetter) (as := [some (eR 0), some (eI x)]) (w2 := (([xO P, eA 3 1 ot]) ++ wCb 2 S, (0, 0))) rfl hs ?_
      refine xLd (N := 2) (n := 1) (i := 0) (F := fun zq => ev m_L_prizeOfLetter 9 [some (eR 0), some (eI x), some (eR 1)] [] (([xO P, eA 3 1 (eUp ot zq (wr zv))]) ++ wCb 2 S, (0, 0))) (k := 0) rfl (show wr 0 = ((0 : Nat) : Int) by decide) (by omega) ?_
      refine xSeg (N := 3) (r := some (.inl (some (eI 0)), (([xO P, eA 3 1 (eUp ot 0 (wr zv))]) ++ wCb 2 S, (0, 0)))) rfl ?_
      rfl
    · exact ⟨mk, _, fun _ => rfl, z_prizeOfLetter (mk := mk) (fr := fr) (P := P) (c := (0, 0)) hg hI hx h1⟩
  · refine ⟨1, 0, by omega, fun P S ot hA => ?_, fun P g mk fr hg => ?_⟩
    · have hs := s_prizeOfLetterX (P := P) (ot := ot) (c := (0, 0)) hA hI rx h
      refine ⟨S, ot, 0 + 1, 0 + 6, hA, fun h => absurd h (by decide), by omega, by omega, ?_⟩
      refine xCatch (N := 5) (E := 1) (p := 13) (M2 := m_L_prizeOfLetter) (pc2 := 4) (ls2 := [some (eR 0), some (eI x), some (eR 1)]) (st2 := [eI 0, eR 1]) (y := m_S_prizeOfLetter) (as := [some (eR 0), some (eI x)]) (w2 := (([xO P, eA 3 1 ot]) ++ wCb 2 S, (0, 0))) rfl hs (by rfl) ?_
      refine xSeg (N := 2) (r := some (.inl (some (eI 1)), (([xO P, eA 3 1 ot]) ++ wCb 2 S, (0 + 1, 0 + 6)))) rfl ?_
      rfl
    · exact ⟨mk, _, fun h => absurd h (by decide), z_prizeOfLetterX (mk := mk) (fr := fr) (P := P) (c := (0, 0)) hg hI rx h⟩
theorem q_guessedSlot {a : eRow} (hI : iA a) {x : Int} (rx : -2147483648 ≤ x ∧ x < 2147483648) : ∃ t v : Int, (0 ≤ t ∧ t ≤ 2) ∧ LQ m_L_guessedSlot [some (eI x)] a t v ∧ NQ m_M_guessedSlot [some (eI x)] a t v := by
  by_cases h : 1 ≤ x ∧ x ≤ (a 5 : Int)
  · obtain ⟨l, hx⟩ : ∃ n : Nat, x = ((n + 1 : Nat) : Int) := ⟨(x - 1).toNat, by omega⟩
    have h1 : l < a 5 := by omega
    refine ⟨0, ((gs a l : Nat) : Int), by omega, fun P S ot hA => ?_, fun P g mk fr hg => ?_⟩
    · have hs := s_guessedSlot (P := P) (ot := ot) (c := (0, 0)) hA hI hx h1
      obtain ⟨zv, hzv⟩ : ∃ zv : Int, zv = ((gs a l : Nat) : Int) := ⟨_, rfl⟩
      rw [← hzv] at hs
      refine ⟨S, eUp ot 0 (wr zv), 0, 0, hA, fun _ => by rw [eUp_at, hzv], by omega, by omega, ?_⟩
      refine xCallW (N := 5) (M2 := m_L_guessedSlot) (pc2 := 4) (ls2 := [some (eR 0), some (eI x), some (eR 1)]) (st2 := [eI 0, eR 1]) (y := m_S_guessedSlot) (as := [some (eR 0), some (eI x)]) (w2 := (([xO P, eA 3 1 ot]) ++ wCb 2 S, (0, 0))) rfl hs ?_
      refine xLd (N := 2) (n := 1) (i := 0) (F := fun zq => ev m_L_guessedSlot 9 [some (eR 0), some (eI x), some (eR 1)] [] (([xO P, eA 3 1 (eUp ot zq (wr zv))]) ++ wCb 2 S, (0, 0))) (k := 0) rfl (show wr 0 = ((0 : Nat) : Int) by decide) (by omega) ?_
      refine xSeg (N := 3) (r := some (.inl (some (eI 0)), (([xO P, eA 3 1 (eUp ot 0 (wr zv))]) ++ wCb 2 S, (0, 0)))) rfl ?_
      rfl
    · exact ⟨mk, _, fun _ => rfl, z_guessedSlot (mk := mk) (fr := fr) (P := P) (c := (0, 0)) hg hI hx h1⟩
  · refine ⟨1, 0, by omega, fun P S ot hA => ?_, fun P g mk fr hg => ?_⟩
    · have hs := s_guessedSlotX (P := P) (ot := ot) (c := (0, 0)) hA hI rx h
      refine ⟨S, ot, 0 + 1, 0 + 6, hA, fun h => absurd h (by decide), by omega, by omega, ?_⟩
      refine xCatch (N := 5) (E := 3) (p := 13) (M2 := m_L_guessedSlot) (pc2 := 4) (ls2 := [some (eR 0), some (eI x), some (eR 1)]) (st2 := [eI 0, eR 1]) (y := m_S_guessedSlot) (as := [some (eR 0), some (eI x)]) (w2 := (([xO P, eA 3 1 ot]) ++ wCb 2 S, (0, 0))) rfl hs (by rfl) ?_
      refine xSeg (N := 2) (r := some (.inl (some (eI 1)), (([xO P, eA 3 1 ot]) ++ wCb 2 S, (0 + 1, 0 + 6)))) rfl ?_
      rfl
    · exact ⟨mk, _, fun h => absurd h (by decide), z_guessedSlotX (mk := mk) (fr := fr) (P := P) (c := (0, 0)) hg hI rx h⟩
theorem q_guessedWord {a : eRow} (hI : iA a) {x : Int} (rx : -2147483648 ≤ x ∧ x < 2147483648) : ∃ t v : Int, (0 ≤ t ∧ t ≤ 2) ∧ LQ m_L_guessedWord [some (eI x)] a t v ∧ NQ m_M_guessedWord [some (eI x)] a t v := by
  by_cases h : 1 ≤ x ∧ x ≤ (a 5 : Int)
  · obtain ⟨l, hx⟩ : ∃ n : Nat, x = ((n + 1 : Nat) : Int) := ⟨(x - 1).toNat, by omega⟩
    have h1 : l < a 5 := by omega
    refine ⟨0, ((gw a l : Nat) : Int), by omega, fun P S ot hA => ?_, fun P g mk fr hg => ?_⟩
    · have hs := s_guessedWord (P := P) (ot := ot) (c := (0, 0)) hA hI hx h1
      obtain ⟨zv, hzv⟩ : ∃ zv : Int, zv = ((gw a l : Nat) : Int) := ⟨_, rfl⟩
      rw [← hzv] at hs
      refine ⟨S, eUp ot 0 (wr zv), 0, 0, hA, fun _ => by rw [eUp_at, hzv], by omega, by omega, ?_⟩
      refine xCallW (N := 5) (M2 := m_L_guessedWord) (pc2 := 4) (ls2 := [some (eR 0), some (eI x), some (eR 1)]) (st2 := [eI 0, eR 1]) (y := m_S_guessedWord) (as := [some (eR 0), some (eI x)]) (w2 := (([xO P, eA 3 1 ot]) ++ wCb 2 S, (0, 0))) rfl hs ?_
      refine xLd (N := 2) (n := 1) (i := 0) (F := fun zq => ev m_L_guessedWord 9 [some (eR 0), some (eI x), some (eR 1)] [] (([xO P, eA 3 1 (eUp ot zq (wr zv))]) ++ wCb 2 S, (0, 0))) (k := 0) rfl (show wr 0 = ((0 : Nat) : Int) by decide) (by omega) ?_
      refine xSeg (N := 3) (r := some (.inl (some (eI 0)), (([xO P, eA 3 1 (eUp ot 0 (wr zv))]) ++ wCb 2 S, (0, 0)))) rfl ?_
      rfl
    · exact ⟨mk, _, fun _ => rfl, z_guessedWord (mk := mk) (fr := fr) (P := P) (c := (0, 0)) hg hI hx h1⟩
  · refine ⟨1, 0, by omega, fun P S ot hA => ?_, fun P g mk fr hg => ?_⟩
    · have hs := s_guessedWordX (P := P) (ot := ot) (c := (0, 0)) hA hI rx h
      refine ⟨S, ot, 0 + 1, 0 + 6, hA, fun h => absurd h (by decide), by omega, by omega, ?_⟩
      refine xCatch (N := 5) (E := 3) (p := 13) (M2 := m_L_guessedWord) (pc2 := 4) (ls2 := [some (eR 0), some (eI x), some (eR 1)]) (st2 := [eI 0, eR 1]) (y := m_S_guessedWord) (as := [some (eR 0), some (eI x)]) (w2 := (([xO P, eA 3 1 ot]) ++ wCb 2 S, (0, 0))) rfl hs (by rfl) ?_
      refine xSeg (N := 2) (r := some (.inl (some (eI 1)), (([xO P, eA 3 1 ot]) ++ wCb 2 S, (0 + 1, 0 + 6)))) rfl ?_
      rfl
    · exact ⟨mk, _, fun h => absurd h (by decide), z_guessedWordX (mk := mk) (fr := fr) (P := P) (c := (0, 0)) hg hI rx h⟩
theorem q_isCandidate {a : eRow} (hI : iA a) {x y : Int} (rx : -2147483648 ≤ x ∧ x < 2147483648) (ry : -2147483648 ≤ y ∧ y < 2147483648) : ∃ t v : Int, (0 ≤ t ∧ t ≤ 2) ∧ (t = 0 → v = 1 ∨ v = 0) ∧ LQ m_L_isCandidate [some (eI x), some (eI y)] a t v ∧ NQ m_M_isCandidate [some (eI x), some (eI y)] a t v := by
  by_cases h : 0 ≤ x ∧ x < (a 3 : Int)
  · obtain ⟨k, hx⟩ : ∃ n : Nat, x = (n : Int) := ⟨x.toNat, by omega⟩
    have h1 : k < a 3 := by omega
    by_cases h2 : 0 ≤ y ∧ y < (a 2 : Int)
    · obtain ⟨w, hy⟩ : ∃ n : Nat, y = (n : Int) := ⟨y.toNat, by omega⟩
      refine ⟨0, bI ((op a k).testBit w), by omega, (fun _ => bl01 rfl (Or.inl ⟨_, rfl⟩)), fun P S ot hA => ?_, fun P g mk fr hg => ?_⟩
      · have hs := s_isCandidate (P := P) (ot := ot) (c := (0, 0)) hA hI hx h1 hy (by omega)
        obtain ⟨zv, hzv⟩ : ∃ zv : Int, zv = bI ((op a k).testBit w) := ⟨_, rfl⟩
        rw [← hzv] at hs
        have hz := bl01 hzv (Or.inl ⟨_, rfl⟩)
        rcases hz with hz | hz
        · refine ⟨S, eUp ot 0 1, 0, 0, hA, fun _ => by rw [eUp_at, ← hzv, hz]; rfl, by omega, by omega, ?_⟩
          refine xCallW (N := 6) (M2 := m_L_isCandidate) (pc2 := 5) (ls2 := [some (eR 0), some (eI x), some (eI y), some (eR 1)]) (st2 := [eI 0, eR 1]) (y := m_S_isCandidate) (as := [some (eR 0), some (eI x), some (eI y)]) (w2 := (([xO P, eA 3 1 ot]) ++ wCb 2 S, (0, 0))) rfl hs ?_
          refine xEqF (N := 1) (x := zv) (y := 0) (A := ev m_L_isCandidate 15 [some (eR 0), some (eI x), some (eI y), some (eR 1)] [eI 0, eR 1] (([xO P, eA 3 1 ot]) ++ wCb 2 S, (0, 0))) (B := ev m_L_isCandidate 11 [some (eR 0), some (eI x), some (eI y), some (eR 1)] [eI 0, eR 1] (([xO P, eA 3 1 ot]) ++ wCb 2 S, (0, 0))) rfl (wr_id (by omega) (by omega)) (show wr 0 = 0 by decide) (by omega) ?_
          refine xLd (N := 3) (n := 1) (i := 0) (F := fun zq => ev m_L_isCandidate 17 [some (eR 0), some (eI x), some (eI y), some (eR 1)] [] (([xO P, eA 3 1 (eUp ot zq 1)]) ++ wCb 2 S, (0, 0))) (k := 0) rfl (show wr 0 = ((0 : Nat) : Int) by decide) (by omega) ?_
          refine xSeg (N := 3) (r := some (.inl (some (eI 0)), (([xO P, eA 3 1 (eUp ot 0 1)]) ++ wCb 2 S, (0, 0)))) rfl ?_
          rfl
        · refine ⟨S, eUp ot 0 0, 0, 0, hA, fun _ => by rw [eUp_at, ← hzv, hz]; rfl, by omega, by omega, ?_⟩
          refine xCallW (N := 6) (M2 := m_L_isCandidate) (pc2 := 5) (ls2 := [some (eR 0), some (eI x), some (eI y), some (eR 1)]) (st2 := [eI 0, eR 1]) (y := m_S_isCandidate) (as := [some (eR 0), some (eI x), some (eI y)]) (w2 := (([xO P, eA 3 1 ot]) ++ wCb 2 S, (0, 0))) rfl hs ?_
          refine xEqT (N := 1) (x := zv) (y := 0) (A := ev m_L_isCandidate 15 [some (eR 0), some (eI x), some (eI y), some (eR 1)] [eI 0, eR 1] (([xO P, eA 3 1 ot]) ++ wCb 2 S, (0, 0))) (B := ev m_L_isCandidate 11 [some (eR 0), some (eI x), some (eI y), some (eR 1)] [eI 0, eR 1] (([xO P, eA 3 1 ot]) ++ wCb 2 S, (0, 0))) rfl (wr_id (by omega) (by omega)) (show wr 0 = 0 by decide) (by omega) ?_
          refine xLd (N := 2) (n := 1) (i := 0) (F := fun zq => ev m_L_isCandidate 17 [some (eR 0), some (eI x), some (eI y), some (eR 1)] [] (([xO P, eA 3 1 (eUp ot zq 0)]) ++ wCb 2 S, (0, 0))) (k := 0) rfl (show wr 0 = ((0 : Nat) : Int) by decide) (by omega) ?_
          refine xSeg (N := 3) (r := some (.inl (some (eI 0)), (([xO P, eA 3 1 (eUp ot 0 0)]) ++ wCb 2 S, (0, 0)))) rfl ?_
          rfl
      · exact ⟨mk, _, fun _ => rfl, z_isCandidate (mk := mk) (fr := fr) (P := P) (c := (0, 0)) hg hI hx h1 hy (by omega)⟩
    · refine ⟨1, 0, by omega, fun _ => Or.inr rfl, fun P S ot hA => ?_, fun P g mk fr hg => ?_⟩
      · have hs := s_isCandidateY (P := P) (ot := ot) (c := (0, 0)) hA hI hx h1 ry h2
        refine ⟨S, ot, 0 + 1, 0 + 6, hA, fun h => absurd h (by decide), by omega, by omega, ?_⟩
        refine xCatch (N := 6) (E := 2) (p := 22) (M2 := m_L_isCandidate) (pc2 := 5) (ls2 := [some (eR 0), some (eI x), some (eI y), some (eR 1)]) (st2 := [eI 0, eR 1]) (y := m_S_isCandidate) (as := [some (eR 0), some (eI x), some (eI y)]) (w2 := (([xO P, eA 3 1 ot]) ++ wCb 2 S, (0, 0))) rfl hs (by rfl) ?_
        refine xSeg (N := 2) (r := some (.inl (some (eI 1)), (([xO P, eA 3 1 ot]) ++ wCb 2 S, (0 + 1, 0 + 6)))) rfl ?_
        rfl
      · exact ⟨mk, _, fun h => absurd h (by decide), z_isCandidateY (mk := mk) (fr := fr) (P := P) (c := (0, 0)) hg hI hx h1 ry h2⟩
  · refine ⟨1, 0, by omega, fun _ => Or.inr rfl, fun P S ot hA => ?_, fun P g mk fr hg => ?_⟩
    · have hs := s_isCandidateX (P := P) (ot := ot) (c := (0, 0)) hA hI (y := y) rx h
      refine ⟨S, ot, 0 + 1, 0 + 6, hA, fun h => absurd h (by decide), by omega, by omega, ?_⟩
      refine xCatch (N := 6) (E := 2) (p := 22) (M2 := m_L_isCandidate) (pc2 := 5) (ls2 := [some (eR 0), some (eI x), some (eI y), some (eR 1)]) (st2 := [eI 0, eR 1]) (y := m_S_isCandidate) (as := [some (eR 0), some (eI x), some (eI y)]) (w2 := (([xO P, eA 3 1 ot]) ++ wCb 2 S, (0, 0))) rfl hs (by rfl) ?_
      refine xSeg (N := 2) (r := some (.inl (some (eI 1)), (([xO P, eA 3 1 ot]) ++ wCb 2 S, (0 + 1, 0 + 6)))) rfl ?_
      rfl
    · exact ⟨mk, _, fun h => absurd h (by decide), z_isCandidateX (mk := mk) (fr := fr) (P := P) (c := (0, 0)) hg hI (y := y) rx h⟩
theorem q_guessRefusal {a : eRow} (hI : iA a) {x y : Int} (rx : -2147483648 ≤ x ∧ x < 2147483648) (ry : -2147483648 ≤ y ∧ y < 2147483648) : ∃ t v : Int, (0 ≤ t ∧ t ≤ 2) ∧ LQ m_L_guessRefusal [some (eI x), some (eI y)] a t v ∧ NQ m_M_guessRefusal [some (eI x), some (eI y)] a t v := by
  by_cases h : 0 ≤ x ∧ x < (a 3 : Int)
  · obtain ⟨k, hx⟩ : ∃ n : Nat, x = (n : Int) := ⟨x.toNat, by omega⟩
    have h1 : k < a 3 := by omega
    by_cases h2 : 0 ≤ y ∧ y < (a 2 : Int)
    · obtain ⟨w, hy⟩ : ∃ n : Nat, y = (n : Int) := ⟨y.toNat, by omega⟩
      refine ⟨0, ((rfs (a 4) ((op a k).testBit w) (decide (pc 30 (op a k) = 1)) : Nat) : Int), by omega, fun P S ot hA => ?_, fun P g mk fr hg => ?_⟩
      · have hs := s_guessRefusal (P := P) (ot := ot) (c := (0, 0)) hA hI hx h1 hy (by omega)
        obtain ⟨zv, hzv⟩ : ∃ zv : Int, zv = ((rfs (a 4) ((op a k).testBit w) (decide (pc 30 (op a k) = 1)) : Nat) : Int) := ⟨_, rfl⟩
        rw [← hzv] at hs
        refine ⟨S, eUp ot 0 (wr zv), 0, 0, hA, fun _ => by rw [eUp_at, hzv], by omega, by omega, ?_⟩
        refine xCallW (N := 6) (M2 := m_L_guessRefusal) (pc2 := 5) (ls2 := [some (eR 0), some (eI x), some (eI y), some (eR 1)]) (st2 := [eI 0, eR 1]) (y := m_S_guessRefusal) (as := [some (eR 0), some (eI x), some (eI y)]) (w2 := (([xO P, eA 3 1 ot]) ++ wCb 2 S, (0, 0))) rfl hs ?_
        refine xLd (N := 2) (n := 1) (i := 0) (F := fun zq => ev m_L_guessRefusal 10 [some (eR 0), some (eI x), some (eI y), some (eR 1)] [] (([xO P, eA 3 1 (eUp ot zq (wr zv))]) ++ wCb 2 S, (0, 0))) (k := 0) rfl (show wr 0 = ((0 : Nat) : Int) by decide) (by omega) ?_
        refine xSeg (N := 3) (r := some (.inl (some (eI 0)), (([xO P, eA 3 1 (eUp ot 0 (wr zv))]) ++ wCb 2 S, (0, 0)))) rfl ?_
        rfl
      · exact ⟨mk, _, fun _ => rfl, z_guessRefusal (mk := mk) (fr := fr) (P := P) (c := (0, 0)) hg hI hx h1 hy (by omega)⟩
    · refine ⟨1, 0, by omega, fun P S ot hA => ?_, fun P g mk fr hg => ?_⟩
      · have hs := s_guessRefusalY (P := P) (ot := ot) (c := (0, 0)) hA hI hx h1 ry h2
        refine ⟨S, ot, 0 + 1, 0 + 6, hA, fun h => absurd h (by decide), by omega, by omega, ?_⟩
        refine xCatch (N := 6) (E := 2) (p := 15) (M2 := m_L_guessRefusal) (pc2 := 5) (ls2 := [some (eR 0), some (eI x), some (eI y), some (eR 1)]) (st2 := [eI 0, eR 1]) (y := m_S_guessRefusal) (as := [some (eR 0), some (eI x), some (eI y)]) (w2 := (([xO P, eA 3 1 ot]) ++ wCb 2 S, (0, 0))) rfl hs (by rfl) ?_
        refine xSeg (N := 2) (r := some (.inl (some (eI 1)), (([xO P, eA 3 1 ot]) ++ wCb 2 S, (0 + 1, 0 + 6)))) rfl ?_
        rfl
      · exact ⟨mk, _, fun h => absurd h (by decide), z_guessRefusalY (mk := mk) (fr := fr) (P := P) (c := (0, 0)) hg hI hx h1 ry h2⟩
  · refine ⟨1, 0, by omega, fun P S ot hA => ?_, fun P g mk fr hg => ?_⟩
    · have hs := s_guessRefusalX (P := P) (ot := ot) (c := (0, 0)) hA hI (y := y) rx h
      refine ⟨S, ot, 0 + 1, 0 + 6, hA, fun h => absurd h (by decide), by omega, by omega, ?_⟩
      refine xCatch (N := 6) (E := 2) (p := 15) (M2 := m_L_guessRefusal) (pc2 := 5) (ls2 := [some (eR 0), some (eI x), some (eI y), some (eR 1)]) (st2 := [eI 0, eR 1]) (y := m_S_guessRefusal) (as := [some (eR 0), some (eI x), some (eI y)]) (w2 := (([xO P, eA 3 1 ot]) ++ wCb 2 S, (0, 0))) rfl hs (by rfl) ?_
      refine xSeg (N := 2) (r := some (.inl (some (eI 1)), (([xO P, eA 3 1 ot]) ++ wCb 2 S, (0 + 1, 0 + 6)))) rfl ?_
      rfl
    · exact ⟨mk, _, fun h => absurd h (by decide), z_guessRefusalX (mk := mk) (fr := fr) (P := P) (c := (0, 0)) hg hI (y := y) rx h⟩
theorem q_letterOf {a : eRow} (hI : iA a) {x y : Int} (rx : -2147483648 ≤ x ∧ x < 2147483648) (ry : -2147483648 ≤ y ∧ y < 2147483648) : ∃ t v : Int, (0 ≤ t ∧ t ≤ 2) ∧ LQ m_L_letterOf [some (eI x), some (eI y)] a t v ∧ NQ m_M_letterOf [some (eI x), some (eI y)] a t v := by
  by_cases h : 0 ≤ x ∧ x < (a 2 : Int)
  · obtain ⟨w, hx⟩ : ∃ n : Nat, x = (n : Int) := ⟨x.toNat, by omega⟩
    have h1 : w < a 2 := by omega
    by_cases h2 : 0 ≤ y ∧ y < (wl a w : Int)
    · obtain ⟨p, hy⟩ : ∃ n : Nat, y = (n : Int) := ⟨y.toNat, by omega⟩
      refine ⟨0, ((97 + lt a w p : Nat) : Int), by omega, fun P S ot hA => ?_, fun P g mk fr hg => ?_⟩
      · have hs := s_letterOf (P := P) (ot := ot) (c := (0, 0)) hA hI hx h1 hy (by omega)
        obtain ⟨zv, hzv⟩ : ∃ zv : Int, zv = ((97 + lt a w p : Nat) : Int) := ⟨_, rfl⟩
        rw [← hzv] at hs
        refine ⟨S, eUp ot 0 (wr zv), 0, 0, hA, fun _ => by rw [eUp_at, hzv], by omega, by omega, ?_⟩
        refine xCallW (N := 6) (M2 := m_L_letterOf) (pc2 := 5) (ls2 := [some (eR 0), some (eI x), some (eI y), some (eR 1)]) (st2 := [eI 0, eR 1]) (y := m_S_letterOf) (as := [some (eR 0), some (eI x), some (eI y)]) (w2 := (([xO P, eA 3 1 ot]) ++ wCb 2 S, (0, 0))) rfl hs ?_
        refine xLd (N := 2) (n := 1) (i := 0) (F := fun zq => ev m_L_letterOf 10 [some (eR 0), some (eI x), some (eI y), some (eR 1)] [] (([xO P, eA 3 1 (eUp ot zq (wr zv))]) ++ wCb 2 S, (0, 0))) (k := 0) rfl (show wr 0 = ((0 : Nat) : Int) by decide) (by omega) ?_
        refine xSeg (N := 3) (r := some (.inl (some (eI 0)), (([xO P, eA 3 1 (eUp ot 0 (wr zv))]) ++ wCb 2 S, (0, 0)))) rfl ?_
        rfl
      · exact ⟨mk, _, fun _ => rfl, z_letterOf (mk := mk) (fr := fr) (P := P) (c := (0, 0)) hg hI hx h1 hy (by omega)⟩
    · refine ⟨2, 0, by omega, fun P S ot hA => ?_, fun P g mk fr hg => ?_⟩
      · have hs := s_letterOfY (P := P) (ot := ot) (c := (0, 0)) hA hI hx h1 ry h2
        refine ⟨S, ot, 0 + 1, 0 + 6, hA, fun h => absurd h (by decide), by omega, by omega, ?_⟩
        refine xCatch (N := 6) (E := 3) (p := 19) (M2 := m_L_letterOf) (pc2 := 5) (ls2 := [some (eR 0), some (eI x), some (eI y), some (eR 1)]) (st2 := [eI 0, eR 1]) (y := m_S_letterOf) (as := [some (eR 0), some (eI x), some (eI y)]) (w2 := (([xO P, eA 3 1 ot]) ++ wCb 2 S, (0, 0))) rfl hs (by rfl) ?_
        refine xSeg (N := 2) (r := some (.inl (some (eI 2)), (([xO P, eA 3 1 ot]) ++ wCb 2 S, (0 + 1, 0 + 6)))) rfl ?_
        rfl
      · exact ⟨mk, _, fun h => absurd h (by decide), z_letterOfY (mk := mk) (fr := fr) (P := P) (c := (0, 0)) hg hI hx h1 ry h2⟩
  · refine ⟨1, 0, by omega, fun P S ot hA => ?_, fun P g mk fr hg => ?_⟩
    · have hs := s_letterOfX (P := P) (ot := ot) (c := (0, 0)) hA hI (y := y) rx h
      refine ⟨S, ot, 0 + 1, 0 + 6, hA, fun h => absurd h (by decide), by omega, by omega, ?_⟩
      refine xCatch (N := 6) (E := 2) (p := 15) (M2 := m_L_letterOf) (pc2 := 5) (ls2 := [some (eR 0), some (eI x), some (eI y), some (eR 1)]) (st2 := [eI 0, eR 1]) (y := m_S_letterOf) (as := [some (eR 0), some (eI x), some (eI y)]) (w2 := (([xO P, eA 3 1 ot]) ++ wCb 2 S, (0, 0))) rfl hs (by rfl) ?_
      refine xSeg (N := 2) (r := some (.inl (some (eI 1)), (([xO P, eA 3 1 ot]) ++ wCb 2 S, (0 + 1, 0 + 6)))) rfl ?_
      rfl
    · exact ⟨mk, _, fun h => absurd h (by decide), z_letterOfX (mk := mk) (fr := fr) (P := P) (c := (0, 0)) hg hI (y := y) rx h⟩
theorem q_crossingSlot {a : eRow} (hI : iA a) {x y : Int} (rx : -2147483648 ≤ x ∧ x < 2147483648) (ry : -2147483648 ≤ y ∧ y < 2147483648) : ∃ t v : Int, (0 ≤ t ∧ t ≤ 2) ∧ LQ m_L_crossingSlot [some (eI x), some (eI y)] a t v ∧ NQ m_M_crossingSlot [some (eI x), some (eI y)] a t v := by
  by_cases h : 0 ≤ x ∧ x < (a 3 : Int)
  · obtain ⟨k, hx⟩ : ∃ n : Nat, x = (n : Int) := ⟨x.toNat, by omega⟩
    have h1 : k < a 3 := by omega
    by_cases h2 : 0 ≤ y ∧ y < ((fb_ct (fun p => decide (oth a k p ≠ 0)) (sl a k) : Nat) : Int)
    · obtain ⟨q, hq0, hq1, -, -⟩ := fnd_nth (p := fun p => decide (oth a k p ≠ 0)) h2
      have hq := fnd_cross (a := a) (k := k) (y := y)
      rw [hq0] at hq
      refine ⟨0, ((oth a k q : Nat) : Int) - 1, by omega, fun P S ot hA => ?_, fun P g mk fr hg => ?_⟩
      · have hs := s_crossingSlot (P := P) (ot := ot) (c := (0, 0)) hA hI hx h1 ry hq
        obtain ⟨zv, hzv⟩ : ∃ zv : Int, zv = ((oth a k q : Nat) : Int) - 1 := ⟨_, rfl⟩
        rw [← hzv] at hs
        refine ⟨S, eUp ot 0 (wr zv), 0, 0, hA, fun _ => by rw [eUp_at, hzv], by omega, by omega, ?_⟩
        refine xCallW (N := 6) (M2 := m_L_crossingSlot) (pc2 := 5) (ls2 := [some (eR 0), some (eI x), some (eI y), some (eR 1)]) (st2 := [eI 0, eR 1]) (y := m_S_crossingSlot) (as := [some (eR 0), some (eI x), some (eI y)]) (w2 := (([xO P, eA 3 1 ot]) ++ wCb 2 S, (0, 0))) rfl hs ?_
        refine xLd (N := 2) (n := 1) (i := 0) (F := fun zq => ev m_L_crossingSlot 10 [some (eR 0), some (eI x), some (eI y), some (eR 1)] [] (([xO P, eA 3 1 (eUp ot zq (wr zv))]) ++ wCb 2 S, (0, 0))) (k := 0) rfl (show wr 0 = ((0 : Nat) : Int) by decide) (by omega) ?_
        refine xSeg (N := 3) (r := some (.inl (some (eI 0)), (([xO P, eA 3 1 (eUp ot 0 (wr zv))]) ++ wCb 2 S, (0, 0)))) rfl ?_
        rfl
      · exact ⟨mk, _, fun _ => rfl, z_crossingSlot (mk := mk) (fr := fr) (P := P) (c := (0, 0)) hg hI hx h1 ry hq h2 hq1⟩
    · have hq := fnd_cross (a := a) (k := k) (y := y)
      rw [fnd_nthX h2] at hq
      refine ⟨2, 0, by omega, fun P S ot hA => ?_, fun P g mk fr hg => ?_⟩
      · have hs := s_crossingSlotY (P := P) (ot := ot) (c := (0, 0)) hA hI hx h1 ry hq
        refine ⟨S, ot, 0 + 1, 0 + 6, hA, fun h => absurd h (by decide), by omega, by omega, ?_⟩
        refine xCatch (N := 6) (E := 3) (p := 19) (M2 := m_L_crossingSlot) (pc2 := 5) (ls2 := [some (eR 0), some (eI x), some (eI y), some (eR 1)]) (st2 := [eI 0, eR 1]) (y := m_S_crossingSlot) (as := [some (eR 0), some (eI x), some (eI y)]) (w2 := (([xO P, eA 3 1 ot]) ++ wCb 2 S, (0, 0))) rfl hs (by rfl) ?_
        refine xSeg (N := 2) (r := some (.inl (some (eI 2)), (([xO P, eA 3 1 ot]) ++ wCb 2 S, (0 + 1, 0 + 6)))) rfl ?_
        rfl
      · exact ⟨mk, _, fun h => absurd h (by decide), z_crossingSlotY (mk := mk) (fr := fr) (P := P) (c := (0, 0)) hg hI hx h1 ry h2⟩
  · refine ⟨1, 0, by omega, fun P S ot hA => ?_, fun P g mk fr hg => ?_⟩
    · have hs := s_crossingSlotX (P := P) (ot := ot) (c := (0, 0)) hA hI (y := y) rx h
      refine ⟨S, ot, 0 + 1, 0 + 6, hA, fun h => absurd h (by decide), by omega, by omega, ?_⟩
      refine xCatch (N := 6) (E := 2) (p := 15) (M2 := m_L_crossingSlot) (pc2 := 5) (ls2 := [some (eR 0), some (eI x), some (eI y), some (eR 1)]) (st2 := [eI 0, eR 1]) (y := m_S_crossingSlot) (as := [some (eR 0), some (eI x), some (eI y)]) (w2 := (([xO P, eA 3 1 ot]) ++ wCb 2 S, (0, 0))) rfl hs (by rfl) ?_
      refine xSeg (N := 2) (r := some (.inl (some (eI 1)), (([xO P, eA 3 1 ot]) ++ wCb 2 S, (0 + 1, 0 + 6)))) rfl ?_
      rfl
    · exact ⟨mk, _, fun h => absurd h (by decide), z_crossingSlotX (mk := mk) (fr := fr) (P := P) (c := (0, 0)) hg hI (y := y) rx h⟩
theorem q_crossingPlace {a : eRow} (hI : iA a) {x y : Int} (rx : -2147483648 ≤ x ∧ x < 2147483648) (ry : -2147483648 ≤ y ∧ y < 2147483648) : ∃ t v : Int, (0 ≤ t ∧ t ≤ 2) ∧ LQ m_L_crossingPlace [some (eI x), some (eI y)] a t v ∧ NQ m_M_crossingPlace [some (eI x), some (eI y)] a t v := by
  by_cases h : 0 ≤ x ∧ x < (a 3 : Int)
  · obtain ⟨k, hx⟩ : ∃ n : Nat, x = (n : Int) := ⟨x.toNat, by omega⟩
    have h1 : k < a 3 := by omega
    by_cases h2 : 0 ≤ y ∧ y < ((fb_ct (fun p => decide (oth a k p ≠ 0)) (sl a k) : Nat) : Int)
    · obtain ⟨q, hq0, hq1, -, -⟩ := fnd_nth (p := fun p => decide (oth a k p ≠ 0)) h2
      have hq := fnd_cross (a := a) (k := k) (y := y)
      rw [hq0] at hq
      refine ⟨0, (q : Int), by omega, fun P S ot hA => ?_, fun P g mk fr hg => ?_⟩
      · have hs := s_crossingPlace (P := P) (ot := ot) (c := (0, 0)) hA hI hx h1 ry hq
        obtain ⟨zv, hzv⟩ : ∃ zv : Int, zv = (q : Int) := ⟨_, rfl⟩
        rw [← hzv] at hs
        refine ⟨S, eUp ot 0 (wr zv), 0, 0, hA, fun _ => by rw [eUp_at, hzv], by omega, by omega, ?_⟩
        refine xCallW (N := 6) (M2 := m_L_crossingPlace) (pc2 := 5) (ls2 := [some (eR 0), some (eI x), some (eI y), some (eR 1)]) (st2 := [eI 0, eR 1]) (y := m_S_crossingPlace) (as := [some (eR 0), some (eI x), some (eI y)]) (w2 := (([xO P, eA 3 1 ot]) ++ wCb 2 S, (0, 0))) rfl hs ?_
        refine xLd (N := 2) (n := 1) (i := 0) (F := fun zq => ev m_L_crossingPlace 10 [some (eR 0), some (eI x), some (eI y), some (eR 1)] [] (([xO P, eA 3 1 (eUp ot zq (wr zv))]) ++ wCb 2 S, (0, 0))) (k := 0) rfl (show wr 0 = ((0 : Nat) : Int) by decide) (by omega) ?_
        refine xSeg (N := 3) (r := some (.inl (some (eI 0)), (([xO P, eA 3 1 (eUp ot 0 (wr zv))]) ++ wCb 2 S, (0, 0)))) rfl ?_
        rfl
      · exact ⟨mk, _, fun _ => rfl, z_crossingPlace (mk := mk) (fr := fr) (P := P) (c := (0, 0)) hg hI hx h1 ry hq h2 hq1⟩
    · have hq := fnd_cross (a := a) (k := k) (y := y)
      rw [fnd_nthX h2] at hq
      refine ⟨2, 0, by omega, fun P S ot hA => ?_, fun P g mk fr hg => ?_⟩
      · have hs := s_crossingPlaceY (P := P) (ot := ot) (c := (0, 0)) hA hI hx h1 ry hq
        refine ⟨S, ot, 0 + 1, 0 + 6, hA, fun h => absurd h (by decide), by omega, by omega, ?_⟩
        refine xCatch (N := 6) (E := 3) (p := 19) (M2 := m_L_crossingPlace) (pc2 := 5) (ls2 := [some (eR 0), some (eI x), some (eI y), some (eR 1)]) (st2 := [eI 0, eR 1]) (y := m_S_crossingPlace) (as := [some (eR 0), some (eI x), some (eI y)]) (w2 := (([xO P, eA 3 1 ot]) ++ wCb 2 S, (0, 0))) rfl hs (by rfl) ?_
        refine xSeg (N := 2) (r := some (.inl (some (eI 2)), (([xO P, eA 3 1 ot]) ++ wCb 2 S, (0 + 1, 0 + 6)))) rfl ?_
        rfl
      · exact ⟨mk, _, fun h => absurd h (by decide), z_crossingPlaceY (mk := mk) (fr := fr) (P := P) (c := (0, 0)) hg hI hx h1 ry h2⟩
  · refine ⟨1, 0, by omega, fun P S ot hA => ?_, fun P g mk fr hg => ?_⟩
    · have hs := s_crossingPlaceX (P := P) (ot := ot) (c := (0, 0)) hA hI (y := y) rx h
      refine ⟨S, ot, 0 + 1, 0 + 6, hA, fun h => absurd h (by decide), by omega, by omega, ?_⟩
      refine xCatch (N := 6) (E := 2) (p := 15) (M2 := m_L_crossingPlace) (pc2 := 5) (ls2 := [some (eR 0), some (eI x), some (eI y), some (eR 1)]) (st2 := [eI 0, eR 1]) (y := m_S_crossingPlace) (as := [some (eR 0), some (eI x), some (eI y)]) (w2 := (([xO P, eA 3 1 ot]) ++ wCb 2 S, (0, 0))) rfl hs (by rfl) ?_
      refine xSeg (N := 2) (r := some (.inl (some (eI 1)), (([xO P, eA 3 1 ot]) ++ wCb 2 S, (0 + 1, 0 + 6)))) rfl ?_
      rfl
    · exact ⟨mk, _, fun h => absurd h (by decide), z_crossingPlaceX (mk := mk) (fr := fr) (P := P) (c := (0, 0)) hg hI (y := y) rx h⟩
theorem q_candidateAt {a : eRow} (hI : iA a) {x y : Int} (rx : -2147483648 ≤ x ∧ x < 2147483648) (ry : -2147483648 ≤ y ∧ y < 2147483648) : ∃ t v : Int, (0 ≤ t ∧ t ≤ 2) ∧ LQ m_L_candidateAt [some (eI x), some (eI y)] a t v ∧ NQ m_M_candidateAt [some (eI x), some (eI y)] a t v := by
  by_cases h : 0 ≤ x ∧ x < (a 3 : Int)
  · obtain ⟨k, hx⟩ : ∃ n : Nat, x = (n : Int) := ⟨x.toNat, by omega⟩
    have h1 : k < a 3 := by omega
    have h30 := ct_30 hI.2.1 hI.2.2.1 h1
    have hm2 := hI.2.1.1
    by_cases h2 : 0 ≤ y ∧ y < ((fb_ct (op a k).testBit (a 2) : Nat) : Int)
    · obtain ⟨q, hq0, hq1, hq2, hq3⟩ := fnd_nth (p := (op a k).testBit) h2
      refine ⟨0, (q : Int), by omega, fun P S ot hA => ?_, fun P g mk fr hg => ?_⟩
      · have hs := (s_candidateAt (P := P) (ot := ot) (c := (0, 0)) hA hI hx h1 ry (by rw [hq0]; omega)).trans (by rw [hq0])
        obtain ⟨zv, hzv⟩ : ∃ zv : Int, zv = (q : Int) := ⟨_, rfl⟩
        rw [← hzv] at hs
        refine ⟨S, eUp ot 0 (wr zv), 0, 0, hA, fun _ => by rw [eUp_at, hzv], by omega, by omega, ?_⟩
        refine xCallW (N := 6) (M2 := m_L_candidateAt) (pc2 := 5) (ls2 := [some (eR 0), some (eI x), some (eI y), some (eR 1)]) (st2 := [eI 0, eR 1]) (y := m_S_candidateAt) (as := [some (eR 0), some (eI x), some (eI y)]) (w2 := (([xO P, eA 3 1 ot]) ++ wCb 2 S, (0, 0))) rfl hs ?_
        refine xLd (N := 2) (n := 1) (i := 0) (F := fun zq => ev m_L_candidateAt 10 [some (eR 0), some (eI x), some (eI y), some (eR 1)] [] (([xO P, eA 3 1 (eUp ot zq (wr zv))]) ++ wCb 2 S, (0, 0))) (k := 0) rfl (show wr 0 = ((0 : Nat) : Int) by decide) (by omega) ?_
        refine xSeg (N := 3) (r := some (.inl (some (eI 0)), (([xO P, eA 3 1 (eUp ot 0 (wr zv))]) ++ wCb 2 S, (0, 0)))) rfl ?_
        rfl
      · exact ⟨mk, _, fun _ => rfl, z_candidateAt (mk := mk) (fr := fr) (P := P) (c := (0, 0)) hg hI hx h1 ry (by rw [h30]; exact h2) (by omega) hq2 hq3⟩
    · have hq := fnd_nthX h2
      refine ⟨2, 0, by omega, fun P S ot hA => ?_, fun P g mk fr hg => ?_⟩
      · have hs := s_candidateAtY (P := P) (ot := ot) (c := (0, 0)) hA hI hx h1 ry hq
        refine ⟨S, ot, 0 + 1, 0 + 6, hA, fun h => absurd h (by decide), by omega, by omega, ?_⟩
        refine xCatch (N := 6) (E := 3) (p := 19) (M2 := m_L_candidateAt) (pc2 := 5) (ls2 := [some (eR 0), some (eI x), some (eI y), some (eR 1)]) (st2 := [eI 0, eR 1]) (y := m_S_candidateAt) (as := [some (eR 0), some (eI x), some (eI y)]) (w2 := (([xO P, eA 3 1 ot]) ++ wCb 2 S, (0, 0))) rfl hs (by rfl) ?_
        refine xSeg (N := 2) (r := some (.inl (some (eI 2)), (([xO P, eA 3 1 ot]) ++ wCb 2 S, (0 + 1, 0 + 6)))) rfl ?_
        rfl
      · exact ⟨mk, _, fun h => absurd h (by decide), z_candidateAtY (mk := mk) (fr := fr) (P := P) (c := (0, 0)) hg hI hx h1 ry (by rw [h30]; exact h2)⟩
  · refine ⟨1, 0, by omega, fun P S ot hA => ?_, fun P g mk fr hg => ?_⟩
    · have hs := s_candidateAtX (P := P) (ot := ot) (c := (0, 0)) hA hI (y := y) rx h
      refine ⟨S, ot, 0 + 1, 0 + 6, hA, fun h => absurd h (by decide), by omega, by omega, ?_⟩
      refine xCatch (N := 6) (E := 2) (p := 15) (M2 := m_L_candidateAt) (pc2 := 5) (ls2 := [some (eR 0), some (eI x), some (eI y), some (eR 1)]) (st2 := [eI 0, eR 1]) (y := m_S_candidateAt) (as := [some (eR 0), some (eI x), some (eI y)]) (w2 := (([xO P, eA 3 1 ot]) ++ wCb 2 S, (0, 0))) rfl hs (by rfl) ?_
      refine xSeg (N := 2) (r := some (.inl (some (eI 1)), (([xO P, eA 3 1 ot]) ++ wCb 2 S, (0 + 1, 0 + 6)))) rfl ?_
      rfl
    · exact ⟨mk, _, fun h => absurd h (by decide), z_candidateAtX (mk := mk) (fr := fr) (P := P) (c := (0, 0)) hg hI (y := y) rx h⟩
