/-! The class's window narrows to the end. -/
/-- a round changes something -/
def chR (n : Nat) (sz : Nat → Nat) (O Q f : Nat → Nat → Nat) (o : Nat → Nat) : Bool := anyN (fun k => decide (crR sz O Q f o k ≠ o k)) n || anyN (fun k => decide (sgR n (crR sz O Q f o) k ≠ crR sz O Q f o k)) n
/-- at most d rounds -/
def nr (n : Nat) (sz : Nat → Nat) (O Q f : Nat → Nat → Nat) : Nat → (Nat → Nat) → Nat → Nat
  | 0, o => o
  | d + 1, o => if fnd (fun k => decide (o k = 0)) n 0 ≠ -1 then o else bif chR n sz O Q f o then nr n sz O Q f d (sgR n (crR sz O Q f o)) else sgR n (crR sz O Q f o)
theorem nr_sub {n : Nat} {sz : Nat → Nat} {O Q f : Nat → Nat → Nat} : ∀ {d : Nat} {o : Nat → Nat}, (∀ k, k < n → o k < 1073741824) → ∀ k, k < n → nr n sz O Q f d o k < 1073741824 ∧ ∀ w, (nr n sz O Q f d o k).testBit w = true → (o k).testBit w = true
  | 0, o, h, k, hk => ⟨h k hk, fun w hw => hw⟩
  | d + 1, o, h, k, hk => by
    have h1 : sgR n (crR sz O Q f o) k < 1073741824 ∧ ∀ w, (sgR n (crR sz O Q f o) k).testBit w = true → (o k).testBit w = true := ⟨sgR_sub.1, fun w hw => crR_sub.2 w (sgR_sub.2 w hw)⟩
    show (if fnd (fun k => decide (o k = 0)) n 0 ≠ -1 then o else bif chR n sz O Q f o then nr n sz O Q f d (sgR n (crR sz O Q f o)) else sgR n (crR sz O Q f o)) k < 1073741824 ∧ ∀ w, ((if fnd (fun k => decide (o k = 0)) n 0 ≠ -1 then o else bif chR n sz O Q f o then nr n sz O Q f d (sgR n (crR sz O Q f o)) else sgR n (crR sz O Q f o)) k).testBit w = true → (o k).testBit w = true
    split
    · exact ⟨h k hk, fun w hw => hw⟩
    · cases chR n sz O Q f o with
      | true =>
        have h2 := nr_sub (n := n) (sz := sz) (O := O) (Q := Q) (f := f) (d := d) (o := sgR n (crR sz O Q f o)) (fun k _ => sgR_sub.1) k hk
        exact ⟨h2.1, fun w hw => h1.2 w (h2.2 w hw)⟩
      | false => exact h1
theorem uS_3 {S : wS} {F F' G : Nat → Int} : uS (uS (uS S 15 F) 19 G) 15 F' = uS (uS S 15 F') 19 G := by
  funext b
  unfold uS
  cases h1 : Nat.beq b 15 with
  | true =>
    have := Nat.eq_of_beq_eq_true h1
    subst this
    rfl
  | false => cases h2 : Nat.beq b 19 <;> rfl
theorem uS_4 {S : wS} {F G G' : Nat → Int} : uS (uS (uS S 15 F) 19 G) 19 G' = uS (uS S 15 F) 19 G' := uS_uS
theorem uS_c {S : wS} {F G : Nat → Int} : uS (uS S 15 F) 19 G = uS (uS S 19 G) 15 F := by
  funext b
  unfold uS
  cases h1 : Nat.beq b 15 with
  | true =>
    have := Nat.eq_of_beq_eq_true h1
    subst this
    rfl
  | false => cases h2 : Nat.beq b 19 <;> rfl
set_option maxRecDepth 100000
theorem c_narrow {S : wS} {c : Nat × Nat} {n m : Nat} {sz wl o : Nat → Nat} {O Q f : Nat → Nat → Nat} (hN : nB S n m sz wl O Q f) (ho : ∀ k, k < n → S 15 k = (o k : Int)) (hm : mB n m sz wl o) : ∃ F G : Nat → Int, (∀ k, k < n → F k = ((nr n sz O Q f 721 o k : Nat) : Int)) ∧ ev m_W_narrow 0 [some (eR 0)] [] (wC S, c) = some (.inl none, (wC (uI (uS (uS S 15 F) 19 G) 0 3 ((mdN n (nr n sz O Q f 721 o) : Nat) : Int)), c)) := by
  have gn := hN.1
  have hn := hN.2.1
  have he : ∀ (o2 : Nat → Nat) (F G : Nat → Int) (x y : Int), (∀ k, k < n → F k = (o2 k : Int)) → mB n m sz wl o2 → ev m_W_narrow 59 [some (eR 0), some (eI x), some (eI y)] [] (wC (uS (uS S 15 F) 19 G), c) = some (.inl none, (wC (uI (uS (uS S 15 F) 19 G) 0 3 ((mdN n o2 : Nat) : Int)), c)) := by
    intro o2 F G x y hF hm2
    refine xCallWI (N := 3) (v := ((mdN n o2 : Nat) : Int)) (M2 := m_W_narrow) (pc2 := 61) (ls2 := [some (eR 0), some (eI x), some (eI y)]) (st2 := [eR 0]) (y := m_W_moodNow) (as := [some (eR 0)]) (w2 := (wC (uS (uS S 15 F) 19 G), c)) rfl (c_moodNow (S := uS (uS S 15 F) 19 G) gn hn (fun k hk => ⟨hF k hk, (hm2 k hk).1⟩)) (fun r61 hr61 => ?_)
    refine xSeg (N := 2) (r := some (.inl none, (wC (uI (uS (uS S 15 F) 19 G) 0 3 r61), c))) rfl ?_
    rw [hr61]
  have hl : ∀ d : Nat, d ≤ 721 → ∀ (o2 : Nat → Nat) (F G : Nat → Int) (y : Int), y = ((721 - d : Nat) : Int) → (∀ k, k < n → F k = (o2 k : Int)) → mB n m sz wl o2 → ∃ F' G' : Nat → Int, (∀ k, k < n → F' k = ((nr n sz O Q f d o2 k : Nat) : Int)) ∧ ev m_W_narrow 4 [some (eR 0), some (eI 1), some (eI y)] [] (wC (uS (uS S 15 F) 19 G), c) = some (.inl none, (wC (uI (uS (uS S 15 F') 19 G') 0 3 ((mdN n (nr n sz O Q f d o2) : Nat) : Int)), c)) := by
    intro d
    induction d with
    | zero =>
      intro _ o2 F G y hy hF hm2
      refine ⟨F, G, hF, ?_⟩
      refine xEqF (N := 2) (x := 1) (y := 0) (A := ev m_W_narrow 59 [some (eR 0), some (eI 1), some (eI y)] [] (wC (uS (uS S 15 F) 19 G), c)) (B := ev m_W_narrow 8 [some (eR 0), some (eI 1), some (eI y)] [] (wC (uS (uS S 15 F) 19 G), c)) rfl (show wr 1 = 1 by decide) (show wr 0 = 0 by decide) (by decide) ?_
      refine xLtF (N := 3) (x := y) (y := 721) (A := ev m_W_narrow 15 [some (eR 0), some (eI 1), some (eI y)] [] (wC (uS (uS S 15 F) 19 G), c)) (B := ev m_W_narrow 59 [some (eR 0), some (eI 1), some (eI y)] [] (wC (uS (uS S 15 F) 19 G), c)) rfl (wr_id (by omega) (by omega)) (show wr 721 = 721 by decide) (by omega) ?_
      exact he o2 F G _ _ hF hm2
    | succ d ih =>
      intro hd o2 F G y hy hF hm2
      have hfe := fnd_b (p := fun k => decide (o2 k = 0)) (d := n) (k := 0)
      have hgo : ∀ k, k < n → (uS (uS S 15 F) 19 G) 15 k = (o2 k : Int) ∧ o2 k < 1073741824 := fun k hk => ⟨hF k hk, (hm2 k hk).1⟩
      by_cases hemp : fnd (fun k => decide (o2 k = 0)) n 0 ≠ -1
      · have hnr : nr n sz O Q f (d + 1) o2 = o2 := if_pos hemp
        refine ⟨F, G, ?_, ?_⟩
        · intro k hk
          rw [hnr]
          exact hF k hk
        · rw [hnr]
          refine xEqF (N := 2) (x := 1) (y := 0) (A := ev m_W_narrow 59 [some (eR 0), some (eI 1), some (eI y)] [] (wC (uS (uS S 15 F) 19 G), c)) (B := ev m_W_narrow 8 [some (eR 0), some (eI 1), some (eI y)] [] (wC (uS (uS S 15 F) 19 G), c)) rfl (show wr 1 = 1 by decide) (show wr 0 = 0 by decide) (by decide) ?_
          refine xLtT (N := 3) (x := y) (y := 721) (A := ev m_W_narrow 15 [some (eR 0), some (eI 1), some (eI y)] [] (wC (uS (uS S 15 F) 19 G), c)) (B := ev m_W_narrow 59 [some (eR 0), some (eI 1), some (eI y)] [] (wC (uS (uS S 15 F) 19 G), c)) rfl (wr_id (by omega) (by omega)) (show wr 721 = 721 by decide) (by omega) ?_
          refine xCallWI (N := 2) (v := fnd (fun k => decide (o2 k = 0)) n 0) (M2 := m_W_narrow) (pc2 := 16) (ls2 := [some (eR 0), some (eI 1), some (eI y)]) (st2 := []) (y := m_W_findEmptySlot) (as := [some (eR 0)]) (w2 := (wC (uS (uS S 15 F) 19 G), c)) rfl (c_findEmptySlot (S := uS (uS S 15 F) 19 G) gn hn hgo) (fun r16 hr16 => ?_)
          refine xEqF (N := 2) (x := r16) (y := (-1)) (A := ev m_W_narrow 23 [some (eR 0), some (eI 1), some (eI y)] [] (wC (uS (uS S 15 F) 19 G), c)) (B := ev m_W_narrow 59 [some (eR 0), some (eI 1), some (eI y)] [] (wC (uS (uS S 15 F) 19 G), c)) rfl (wr_id (by omega) (by omega)) (show wr (-1) = (-1) by decide) (by omega) ?_
          exact he o2 F G _ _ hF hm2
      · have hnr : nr n sz O Q f (d + 1) o2 = bif chR n sz O Q f o2 then nr n sz O Q f d (sgR n (crR sz O Q f o2)) else sgR n (crR sz O Q f o2) := if_neg hemp
        have hmc : mB n m sz wl (crR sz O Q f o2) := mB_sub hm2 (fun k _ => crR_sub)
        have hms : mB n m sz wl (sgR n (crR sz O Q f o2)) := mB_sub hmc (fun k _ => sgR_sub)
        generalize hG2 : ofF sz (fun k p => lmN (o2 k) (fun w => f w p)) G n 0 = G2
        generalize hF3 : cF (sgR n (crR sz O Q f o2)) (cF (crR sz O Q f o2) F n) n = F3
        have hF3k : ∀ k, k < n → F3 k = ((sgR n (crR sz O Q f o2) k : Nat) : Int) := fun k hk => by rw [← hF3]; exact cF_lt hk
        have hrd : ∀ R : eRes, (∀ x : Int, x = bI (chR n sz O Q f o2) → ev m_W_narrow 4 [some (eR 0), some (eI x), some (eI (y + 1))] [] (wC (uS (uS S 15 F3) 19 G2), c) = R) → ev m_W_narrow 4 [some (eR 0), some (eI 1), some (eI y)] [] (wC (uS (uS S 15 F) 19 G), c) = R := by
          intro R hR
          have hof : ∀ k p, k < n → p < sz k → (uS (uS S 15 F) 19 G2) 19 (k * 6 + p) = ((lmN (o2 k) (fun w => f w p) : Nat) : Int) := fun k p hk hp => by
            rw [uS_at, ← hG2]
            exact ofF_at (lm := fun k p => lmN (o2 k) (fun w => f w p)) hk hp (by have := (hN.2.2.1 k hk).2; omega)
          have q1 : ev m_W_noteOfferedLetters 0 [some (eR 0)] [] (wC (uS (uS S 15 F) 19 G), c) = some (.inl none, (wC (uS (uS S 15 F) 19 G2), c)) := by
            have h9 := c_noteOffered (S := uS (uS S 15 F) 19 G) (c := c) (f := f) gn hn hN.2.2.1 hgo (mB_gl (S := uS (uS S 15 F) 19 G) hN hm2)
            rw [uS_4, uS_at, hG2] at h9
            exact h9
          have q2 : ev m_W_narrowByCrossings 0 [some (eR 0)] [] (wC (uS (uS S 15 F) 19 G2), c) = some (.inl (some (eI (bI (anyN (fun k => decide (crR sz O Q f o2 k ≠ o2 k)) n)))), (wC (uS (uS S 15 (cF (crR sz O Q f o2) F n)) 19 G2), c)) := by
            have h9 := c_cross (S := uS (uS S 15 F) 19 G2) (c := c) (n := n) (m := m) (sz := sz) (wl := wl) (o := o2) (O := O) (Q := Q) (f := f) hN hF hm2 hof
            rw [uS_3] at h9
            exact h9
          have q3 : ev m_W_narrowBySingles 0 [some (eR 0)] [] (wC (uS (uS S 15 (cF (crR sz O Q f o2) F n)) 19 G2), c) = some (.inl (some (eI (bI (anyN (fun k => decide (sgR n (crR sz O Q f o2) k ≠ crR sz O Q f o2 k)) n)))), (wC (uS (uS S 15 F3) 19 G2), c)) := by
            have h9 := c_single (S := uS (uS S 15 (cF (crR sz O Q f o2) F n)) 19 G2) (c := c) (n := n) (o := crR sz O Q f o2) gn hn (fun k hk => ⟨cF_lt hk, crR_sub.1⟩)
            rw [uS_3] at h9
            rw [← hF3]
            exact h9
          refine xEqF (N := 2) (x := 1) (y := 0) (A := ev m_W_narrow 59 [some (eR 0), some (eI 1), some (eI y)] [] (wC (uS (uS S 15 F) 19 G), c)) (B := ev m_W_narrow 8 [some (eR 0), some (eI 1), some (eI y)] [] (wC (uS (uS S 15 F) 19 G), c)) rfl (show wr 1 = 1 by decide) (show wr 0 = 0 by decide) (by decide) ?_
          refine xLtT (N := 3) (x := y) (y := 721) (A := ev m_W_narrow 15 [some (eR 0), some (eI 1), some (eI y)] [] (wC (uS (uS S 15 F) 19 G), c)) (B := ev m_W_narrow 59 [some (eR 0), some (eI 1), some (eI y)] [] (wC (uS (uS S 15 F) 19 G), c)) rfl (wr_id (by omega) (by omega)) (show wr 721 = 721 by decide) (by omega) ?_
          refine xCallWI (N := 2) (v := fnd (fun k => decide (o2 k = 0)) n 0) (M2 := m_W_narrow) (pc2 := 16) (ls2 := [some (eR 0), some (eI 1), some (eI y)]) (st2 := []) (y := m_W_findEmptySlot) (as := [some (eR 0)]) (w2 := (wC (uS (uS S 15 F) 19 G), c)) rfl (c_findEmptySlot (S := uS (uS S 15 F) 19 G) gn hn hgo) (fun r16 hr16 => ?_)
          refine xEqT (N := 2) (x := r16) (y := (-1)) (A := ev m_W_narrow 23 [some (eR 0), some (eI 1), some (eI y)] [] (wC (uS (uS S 15 F) 19 G), c)) (B := ev m_W_narrow 59 [some (eR 0), some (eI 1), some (eI y)] [] (wC (uS (uS S 15 F) 19 G), c)) rfl (wr_id (by omega) (by omega)) (show wr (-1) = (-1) by decide) (by omega) ?_
          refine xCallWV (N := 2) (M2 := m_W_narrow) (pc2 := 24) (ls2 := [some (eR 0), some (eI 1), some (eI y)]) (st2 := []) (y := m_W_noteOfferedLetters) (as := [some (eR 0)]) (w2 := (wC (uS (uS S 15 F) 19 G), c)) rfl q1 ?_
          refine xCallWI (N := 2) (v := bI (anyN (fun k => decide (crR sz O Q f o2 k ≠ o2 k)) n)) (M2 := m_W_narrow) (pc2 := 28) (ls2 := [some (eR 0), some (eI 1), some (eI y)]) (st2 := []) (y := m_W_narrowByCrossings) (as := [some (eR 0)]) (w2 := (wC (uS (uS S 15 F) 19 G2), c)) rfl q2 (fun r28 hr28 => ?_)
          refine xCallWI (N := 3) (v := bI (anyN (fun k => decide (sgR n (crR sz O Q f o2) k ≠ crR sz O Q f o2 k)) n)) (M2 := m_W_narrow) (pc2 := 33) (ls2 := [some (eR 0), some (eI 1), some (eI y), some (eI r28)]) (st2 := []) (y := m_W_narrowBySingles) (as := [some (eR 0)]) (w2 := (wC (uS (uS S 15 (cF (crR sz O Q f o2) F n)) 19 G2), c)) rfl q3 (fun r33 hr33 => ?_)
          have hq1 := bI_1 hr28
          have hq2 := bI_1 hr33
          refine xEq (N := 3) (x := r28) (y := 0) (A := ev m_W_narrow 42 [some (eR 0), some (eI 1), some (eI y), some (eI r28), some (eI r33)] [] (wC (uS (uS S 15 F3) 19 G2), c)) (B := ev m_W_narrow 47 [some (eR 0), some (eI 1), some (eI y), some (eI r28), some (eI r33)] [] (wC (uS (uS S 15 F3) 19 G2), c)) rfl (wr_id (by omega) (by omega)) (show wr 0 = 0 by decide) (fun h39 => ?_) (fun h39 => ?_)
          · refine xEq (N := 2) (x := r33) (y := 0) (A := ev m_W_narrow 51 [some (eR 0), some (eI 1), some (eI y), some (eI r28), some (eI r33)] [] (wC (uS (uS S 15 F3) 19 G2), c)) (B := ev m_W_narrow 47 [some (eR 0), some (eI 1), some (eI y), some (eI r28), some (eI r33)] [] (wC (uS (uS S 15 F3) 19 G2), c)) rfl (wr_id (by omega) (by omega)) (show wr 0 = 0 by decide) (fun h44 => ?_) (fun h44 => ?_)
            · refine xSeg (N := 4) (r := ev m_W_narrow 4 [some (eR 0), some (eI 0), some (eI (y + 1)), some (eI r28), some (eI r33)] [] (wC (uS (uS S 15 F3) 19 G2), c)) rfl ?_
              refine xTk 3 (by rfl) rfl ?_
              first | exact hR 1 (bT (by unfold chR; rw [hq1.2.1.mp (by omega)]; rfl)) | exact hR 1 (bT (by unfold chR; rw [hq2.2.1.mp (by omega), Bool.or_true])) | exact hR 0 (bF (by unfold chR; rw [hq1.2.2.mp (by omega), hq2.2.2.mp (by omega)]; rfl))
            · refine xSeg (N := 5) (r := ev m_W_narrow 4 [some (eR 0), some (eI 1), some (eI (y + 1)), some (eI r28), some (eI r33)] [] (wC (uS (uS S 15 F3) 19 G2), c)) rfl ?_
              refine xTk 3 (by rfl) rfl ?_
              first | exact hR 1 (bT (by unfold chR; rw [hq1.2.1.mp (by omega)]; rfl)) | exact hR 1 (bT (by unfold chR; rw [hq2.2.1.mp (by omega), Bool.or_true])) | exact hR 0 (bF (by unfold chR; rw [hq1.2.2.mp (by omega), hq2.2.2.mp (by omega)]; rfl))
          · refine xSeg (N := 5) (r := ev m_W_narrow 4 [some (eR 0), some (eI 1), some (eI (y + 1)), some (eI r28), some (eI r33)] [] (wC (uS (uS S 15 F3) 19 G2), c)) rfl ?_
            refine xTk 3 (by rfl) rfl ?_
            first | exact hR 1 (bT (by unfold chR; rw [hq1.2.1.mp (by omega)]; rfl)) | exact hR 1 (bT (by unfold chR; rw [hq2.2.1.mp (by omega), Bool.or_true])) | exact hR 0 (bF (by unfold chR; rw [hq1.2.2.mp (by omega), hq2.2.2.mp (by omega)]; rfl))
        cases hch : chR n sz O Q f o2 with
        | true =>
          rw [hch, cond_true] at hnr
          obtain ⟨F', G', h1, h2⟩ := ih (by omega) (sgR n (crR sz O Q f o2)) F3 G2 (y + 1) (by omega) hF3k hms
          refine ⟨F', G', by rw [hnr]; exact h1, hrd _ (fun x hx => ?_)⟩
          rw [hch] at hx
          rw [hnr, show x = 1 from hx]
          exact h2
        | false =>
          rw [hch, cond_false] at hnr
          refine ⟨F3, G2, by rw [hnr]; exact hF3k, hrd _ (fun x hx => ?_)⟩
          rw [hch] at hx
          have hx0 : x = 0 := hx
          rw [hnr]
          refine xEqT (N := 2) (x := x) (y := 0) (A := ev m_W_narrow 59 [some (eR 0), some (eI x), some (eI (y + 1))] [] (wC (uS (uS S 15 F3) 19 G2), c)) (B := ev m_W_narrow 8 [some (eR 0), some (eI x), some (eI (y + 1))] [] (wC (uS (uS S 15 F3) 19 G2), c)) rfl (wr_id (by omega) (by omega)) (show wr 0 = 0 by decide) (by omega) ?_
          exact he _ F3 G2 _ _ hF3k hms
  obtain ⟨F, G, h1, h2⟩ := hl 721 (Nat.le_refl _) o (S 15) (S 19) 0 rfl ho hm
  rw [uS_self, uS_self] at h2
  refine ⟨F, G, h1, ?_⟩
  refine xSeg (N := 4) (r := ev m_W_narrow 4 [some (eR 0), some (eI 1), some (eI 0)] [] (wC S, c)) rfl ?_
  exact h2
