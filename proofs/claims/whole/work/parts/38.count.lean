/-! The class's window: offered letters, counts, sure letters, what fits. -/
/-- the offered letters when the slots before k, and the places before p of k, are done -/
def ofF (sz : Nat → Nat) (lm : Nat → Nat → Nat) (old : Nat → Int) (k p : Nat) : Nat → Int := fun i => if (i / 6 < k ∧ i % 6 < sz (i / 6)) ∨ (i / 6 = k ∧ i % 6 < p) then (lm (i / 6) (i % 6) : Int) else old i
theorem ofF_0 {sz : Nat → Nat} {lm : Nat → Nat → Nat} {old : Nat → Int} : ofF sz lm old 0 0 = old := by
  funext i
  unfold ofF
  rw [if_neg (by omega)]
theorem ofF_step {sz : Nat → Nat} {lm : Nat → Nat → Nat} {old : Nat → Int} {k p : Nat} (hp : p < 6) : eUp (ofF sz lm old k p) (k * 6 + p) (lm k p : Int) = ofF sz lm old k (p + 1) := by
  funext i
  unfold eUp ofF
  by_cases hi : i = k * 6 + p
  · rw [if_pos hi, if_pos (by omega), show i / 6 = k by omega, show i % 6 = p by omega]
  · rw [if_neg hi]
    by_cases h : (i / 6 < k ∧ i % 6 < sz (i / 6)) ∨ (i / 6 = k ∧ i % 6 < p)
    · rw [if_pos h, if_pos (by omega)]
    · rw [if_neg h, if_neg (by omega)]
theorem ofF_next {sz : Nat → Nat} {lm : Nat → Nat → Nat} {old : Nat → Int} {k : Nat} : ofF sz lm old k (sz k) = ofF sz lm old (k + 1) 0 := by
  funext i
  unfold ofF
  by_cases hi : i / 6 = k
  · rw [hi]
    by_cases h : i % 6 < sz k
    · rw [if_pos (Or.inr ⟨rfl, h⟩), if_pos (Or.inl ⟨by omega, h⟩)]
    · rw [if_neg (by omega), if_neg (by omega)]
  · by_cases h : i / 6 < k ∧ i % 6 < sz (i / 6)
    · rw [if_pos (Or.inl h), if_pos (Or.inl ⟨by omega, h.2⟩)]
    · rw [if_neg (by omega), if_neg (by omega)]
theorem ofF_at {sz : Nat → Nat} {lm : Nat → Nat → Nat} {old : Nat → Int} {n k p : Nat} (hk : k < n) (hp : p < sz k) (h6 : p < 6) : ofF sz lm old n 0 (k * 6 + p) = (lm k p : Int) := by
  unfold ofF
  rw [show (k * 6 + p) / 6 = k by omega, show (k * 6 + p) % 6 = p by omega, if_pos (Or.inl ⟨hk, hp⟩)]
set_option maxRecDepth 100000
theorem c_noteOffered {S : wS} {c : Nat × Nat} {n : Nat} {o sz : Nat → Nat} {f : Nat → Nat → Nat} (gn : S 1 4 = (n : Int)) (hn : n ≤ 24) (g5 : ∀ k, k < n → S 5 k = (sz k : Int) ∧ sz k ≤ 6) (go : ∀ k, k < n → S 15 k = (o k : Int) ∧ o k < 1073741824) (gl : ∀ k, k < n → ∀ w, (o k).testBit w = true → ∀ p, p < sz k → S 13 (w * 6 + p) = (f w p : Int) ∧ f w p < 26) : ev m_W_noteOfferedLetters 0 [some (eR 0)] [] (wC S, c) = some (.inl none, (wC (uS S 19 (ofF sz (fun k p => lmN (o k) (fun w => f w p)) (S 19) n 0)), c)) := by
  generalize hlm : (fun k p => lmN (o k) (fun w => f w p)) = lm
  have hi : ∀ (k : Nat) (v : Int), k < n → v = (k : Int) → ∀ R : eRes, (∀ y : Int, ev m_W_noteOfferedLetters 2 [some (eR 0), some (eI (v + 1))] [] (wC (uS S 19 (ofF sz lm (S 19) (k + 1) 0)), c) = R) → ∀ p : Nat, p ≤ sz k → ∀ y : Int, y = (p : Int) → ev m_W_noteOfferedLetters 15 [some (eR 0), some (eI v), some (eI y)] [] (wC (uS S 19 (ofF sz lm (S 19) k p)), c) = R := by
    intro k v hk hv R hR
    have hz := g5 k hk
    refine loop_up ?_ ?_
    · intro y hy
      rw [ofF_next]
      refine xLd (N := 6) (n := 24) (i := v) (F := fun zq => ev m_W_noteOfferedLetters 25 [some (eR 0), some (eI v), some (eI y)] [eI (S 5 zq), eI y] (wC (uS S 19 (ofF sz lm (S 19) (k + 1) 0)), c)) (k := k) rfl (wr_nat (by omega) (by omega)) (by omega) ?_
      refine xLtF (N := 1) (x := y) (y := S 5 k) (A := ev m_W_noteOfferedLetters 28 [some (eR 0), some (eI v), some (eI y)] [] (wC (uS S 19 (ofF sz lm (S 19) (k + 1) 0)), c)) (B := ev m_W_noteOfferedLetters 51 [some (eR 0), some (eI v), some (eI y)] [] (wC (uS S 19 (ofF sz lm (S 19) (k + 1) 0)), c)) rfl (wr_id (by omega) (by omega)) (wr_id (by omega) (by omega)) (by omega) ?_
      refine xSeg (N := 2) (r := ev m_W_noteOfferedLetters 2 [some (eR 0), some (eI (v + 1)), some (eI y)] [] (wC (uS S 19 (ofF sz lm (S 19) (k + 1) 0)), c)) rfl ?_
      refine xTk 2 (by rfl) rfl ?_
      exact hR y
    · intro p hp ih y hy
      have hb := go k hk
      refine xLd (N := 6) (n := 24) (i := v) (F := fun zq => ev m_W_noteOfferedLetters 25 [some (eR 0), some (eI v), some (eI y)] [eI (S 5 zq), eI y] (wC (uS S 19 (ofF sz lm (S 19) k p)), c)) (k := k) rfl (wr_nat (by omega) (by omega)) (by omega) ?_
      refine xLtT (N := 1) (x := y) (y := S 5 k) (A := ev m_W_noteOfferedLetters 28 [some (eR 0), some (eI v), some (eI y)] [] (wC (uS S 19 (ofF sz lm (S 19) k p)), c)) (B := ev m_W_noteOfferedLetters 51 [some (eR 0), some (eI v), some (eI y)] [] (wC (uS S 19 (ofF sz lm (S 19) k p)), c)) rfl (wr_id (by omega) (by omega)) (wr_id (by omega) (by omega)) (by omega) ?_
      refine xCallWI (N := 11) (v := ((lmN (o k) (fun w => f w p) : Nat) : Int)) (M2 := m_W_noteOfferedLetters) (pc2 := 41) (ls2 := [some (eR 0), some (eI v), some (eI y)]) (st2 := [eI ((v * 6) + y), eR 19]) (y := m_W_lettersAt) (as := [some (eR 0), some (eI v), some (eI y)]) (w2 := (wC (uS S 19 (ofF sz lm (S 19) k p)), c)) rfl (c_lettersAt (m0 := o k) (f := fun w => f w p) hv hy (by omega) (by omega) hb.1 hb.2 (fun w hw => gl k hk w hw p hp)) (fun r41 hr41 => ?_)
      refine xLd (N := 1) (n := 144) (i := (v * 6) + y) (F := fun zq => ev m_W_noteOfferedLetters 45 [some (eR 0), some (eI v), some (eI y)] [] (wC (uI (uS S 19 (ofF sz lm (S 19) k p)) 19 zq r41), c)) (k := (k * 6) + p) rfl (wr_nat (by omega) (by omega)) (by omega) ?_
      refine xSeg (N := 2) (r := ev m_W_noteOfferedLetters 15 [some (eR 0), some (eI v), some (eI (y + 1))] [] (wC (uI (uS S 19 (ofF sz lm (S 19) k p)) 19 ((k * 6) + p) r41), c)) rfl ?_
      rw [uI_uS, hr41, show ((lmN (o k) (fun w => f w p) : Nat) : Int) = (lm k p : Int) by rw [← hlm], ofF_step (by omega)]
      exact ih _ (by omega)
  have hl : ∀ k : Nat, k ≤ n → ∀ v : Int, v = ((k : Nat) : Int) → ev m_W_noteOfferedLetters 2 [some (eR 0), some (eI v)] [] (wC (uS S 19 (ofF sz lm (S 19) k 0)), c) = some (.inl none, (wC (uS S 19 (ofF sz lm (S 19) n 0)), c)) := by
    refine loop_up ?_ ?_
    · intro v hv
      refine xLtF (N := 5) (x := v) (y := S 1 4) (A := ev m_W_noteOfferedLetters 13 [some (eR 0), some (eI v)] [] (wC (uS S 19 (ofF sz lm (S 19) n 0)), c)) (B := ev m_W_noteOfferedLetters 57 [some (eR 0), some (eI v)] [] (wC (uS S 19 (ofF sz lm (S 19) n 0)), c)) rfl (wr_id (by omega) (by omega)) (wr_id (by omega) (by omega)) (by omega) ?_
      refine xSeg (N := 1) (r := some (.inl none, (wC (uS S 19 (ofF sz lm (S 19) n 0)), c))) rfl ?_
      rfl
    · intro k hk ih v hv
      refine xLtT (N := 5) (x := v) (y := S 1 4) (A := ev m_W_noteOfferedLetters 13 [some (eR 0), some (eI v)] [] (wC (uS S 19 (ofF sz lm (S 19) k 0)), c)) (B := ev m_W_noteOfferedLetters 57 [some (eR 0), some (eI v)] [] (wC (uS S 19 (ofF sz lm (S 19) k 0)), c)) rfl (wr_id (by omega) (by omega)) (wr_id (by omega) (by omega)) (by omega) ?_
      refine xSeg (N := 2) (r := ev m_W_noteOfferedLetters 15 [some (eR 0), some (eI v), some (eI 0)] [] (wC (uS S 19 (ofF sz lm (S 19) k 0)), c)) rfl ?_
      exact hi k v hk hv _ (fun y => ih _ (by omega)) 0 (Nat.zero_le _) _ rfl
  rw [show wC S = wC (uS S 19 (ofF sz lm (S 19) 0 0)) by rw [ofF_0, uS_self]]
  refine xSeg (N := 2) (r := ev m_W_noteOfferedLetters 2 [some (eR 0), some (eI 0)] [] (wC (uS S 19 (ofF sz lm (S 19) 0 0)), c)) rfl ?_
  exact hl 0 (Nat.zero_le _) _ rfl
/-- over the places of the slots -/
def sumP (sz : Nat → Nat) (F : Nat → Nat → Nat) (n : Nat) : Nat := fb_sm (fun k => fb_sm (fun p => F k p) (sz k)) n
theorem c_cU {S : wS} {c : Nat × Nat} {n : Nat} {o sz : Nat → Nat} {f U : Nat → Nat → Nat} (gn : S 1 4 = (n : Int)) (hn : n ≤ 24) (g5 : ∀ k, k < n → S 5 k = (sz k : Int) ∧ sz k ≤ 6) (go : ∀ k, k < n → S 15 k = (o k : Int) ∧ o k < 1073741824) (gl : ∀ k, k < n → ∀ w, (o k).testBit w = true → ∀ p, p < sz k → S 13 (w * 6 + p) = (f w p : Int) ∧ f w p < 26) (hU : ∀ k, k < n → ∀ p, p < sz k → usOk S k p (o k) (fun w => f w p) (U k p)) : ev m_W_countUnsupported 8 [some (eR 0), some (eI 0), some (eI 0)] [] (wC S, c) = some (.inl (some (eI ((sumP sz (fun k p => pc 30 (U k p)) n : Nat) : Int))), (wC S, c)) := by
  have hi : ∀ (k : Nat) (v : Int), k < n → v = (k : Int) → ∀ (s0 : Nat) (R : eRes), (∀ s y : Int, s = ((s0 + fb_sm (fun p => pc 30 (U k p)) (sz k) : Nat) : Int) → ev m_W_countUnsupported 8 [some (eR 0), some (eI s), some (eI (v + 1))] [] (wC S, c) = R) → ∀ p : Nat, p ≤ sz k → ∀ s y : Int, s = ((s0 + fb_sm (fun p => pc 30 (U k p)) p : Nat) : Int) → y = (p : Int) → ev m_W_countUnsupported 21 [some (eR 0), some (eI s), some (eI v), some (eI y)] [] (wC S, c) = R := by
    intro k v hk hv s0 R hR
    have hz := g5 k hk
    refine loop_up ?_ ?_
    · intro s y hs hy
      refine xLd (N := 6) (n := 24) (i := v) (F := fun zq => ev m_W_countUnsupported 31 [some (eR 0), some (eI s), some (eI v), some (eI y)] [eI (S 5 zq), eI y] (wC S, c)) (k := k) rfl (wr_nat (by omega) (by omega)) (by omega) ?_
      refine xLtF (N := 1) (x := y) (y := S 5 k) (A := ev m_W_countUnsupported 34 [some (eR 0), some (eI s), some (eI v), some (eI y)] [] (wC S, c)) (B := ev m_W_countUnsupported 52 [some (eR 0), some (eI s), some (eI v), some (eI y)] [] (wC S, c)) rfl (wr_id (by omega) (by omega)) (wr_id (by omega) (by omega)) (by omega) ?_
      refine xSeg (N := 2) (r := ev m_W_countUnsupported 8 [some (eR 0), some (eI s), some (eI (v + 1)), some (eI y)] [] (wC S, c)) rfl ?_
      refine xTk 3 (by rfl) rfl ?_
      exact hR s y hs
    · intro p hp ih s y hs hy
      have hb := go k hk
      have hu := hU k hk p hp
      have hs2 := fb_sm_succ (fun p => pc 30 (U k p)) p
      refine xLd (N := 6) (n := 24) (i := v) (F := fun zq => ev m_W_countUnsupported 31 [some (eR 0), some (eI s), some (eI v), some (eI y)] [eI (S 5 zq), eI y] (wC S, c)) (k := k) rfl (wr_nat (by omega) (by omega)) (by omega) ?_
      refine xLtT (N := 1) (x := y) (y := S 5 k) (A := ev m_W_countUnsupported 34 [some (eR 0), some (eI s), some (eI v), some (eI y)] [] (wC S, c)) (B := ev m_W_countUnsupported 52 [some (eR 0), some (eI s), some (eI v), some (eI y)] [] (wC S, c)) rfl (wr_id (by omega) (by omega)) (wr_id (by omega) (by omega)) (by omega) ?_
      refine xCallWI (N := 5) (v := (U k p : Int)) (M2 := m_W_countUnsupported) (pc2 := 38) (ls2 := [some (eR 0), some (eI s), some (eI v), some (eI y)]) (st2 := [eI s]) (y := m_W_unsupported) (as := [some (eR 0), some (eI v), some (eI y)]) (w2 := (wC S, c)) rfl (c_unsupported (m0 := o k) (f := fun w => f w p) hv hy (by omega) (by omega) hb.1 hb.2 (fun w hw => gl k hk w hw p hp) hu) (fun r38 hr38 => ?_)
      refine xCallI (N := 1) (v := ((pc 30 (U k p) : Nat) : Int)) (M2 := m_W_countUnsupported) (pc2 := 41) (ls2 := [some (eR 0), some (eI s), some (eI v), some (eI y)]) (st2 := [eI s]) (y := m_J_bitCount) (as := [some (eI r38)]) (w2 := (wC S, c)) rfl (c_bitCount hr38 (usOk_lt hu)) (fun r41 hr41 => ?_)
      refine xSeg (N := 4) (r := ev m_W_countUnsupported 21 [some (eR 0), some (eI (s + r41)), some (eI v), some (eI (y + 1))] [] (wC S, c)) rfl ?_
      exact ih _ _ (by rw [hs2]; omega) (by omega)
  have hl : ∀ k : Nat, k ≤ n → ∀ s v : Int, s = ((sumP sz (fun k p => pc 30 (U k p)) k : Nat) : Int) → v = ((k : Nat) : Int) → ev m_W_countUnsupported 8 [some (eR 0), some (eI s), some (eI v)] [] (wC S, c) = some (.inl (some (eI ((sumP sz (fun k p => pc 30 (U k p)) n : Nat) : Int))), (wC S, c)) := by
    refine loop_up ?_ ?_
    · intro s v hs hv
      refine xLtF (N := 5) (x := v) (y := S 1 4) (A := ev m_W_countUnsupported 19 [some (eR 0), some (eI s), some (eI v)] [] (wC S, c)) (B := ev m_W_countUnsupported 58 [some (eR 0), some (eI s), some (eI v)] [] (wC S, c)) rfl (wr_id (by omega) (by omega)) (wr_id (by omega) (by omega)) (by omega) ?_
      refine xSeg (N := 2) (r := some (.inl (some (eI s)), (wC S, c))) rfl ?_
      rw [hs]
    · intro k hk ih s v hs hv
      refine xLtT (N := 5) (x := v) (y := S 1 4) (A := ev m_W_countUnsupported 19 [some (eR 0), some (eI s), some (eI v)] [] (wC S, c)) (B := ev m_W_countUnsupported 58 [some (eR 0), some (eI s), some (eI v)] [] (wC S, c)) rfl (wr_id (by omega) (by omega)) (wr_id (by omega) (by omega)) (by omega) ?_
      refine xSeg (N := 2) (r := ev m_W_countUnsupported 21 [some (eR 0), some (eI s), some (eI v), some (eI 0)] [] (wC S, c)) rfl ?_
      exact hi k v hk hv (sumP sz (fun k p => pc 30 (U k p)) k) _ (fun s2 y2 h2 => ih _ _ h2 (by omega)) 0 (Nat.zero_le _) _ _ hs rfl
  exact hl 0 (Nat.zero_le _) _ _ rfl rfl
theorem c_countUnsupported {S : wS} {c : Nat × Nat} {n : Nat} {o sz : Nat → Nat} {f U : Nat → Nat → Nat} (gn : S 1 4 = (n : Int)) (hn : n ≤ 24) (g5 : ∀ k, k < n → S 5 k = (sz k : Int) ∧ sz k ≤ 6) (go : ∀ k, k < n → S 15 k = (o k : Int) ∧ o k < 1073741824) (gl : ∀ k, k < n → ∀ w, (o k).testBit w = true → ∀ p, p < sz k → S 13 (w * 6 + p) = (f w p : Int) ∧ f w p < 26) (hU : ∀ k, k < n → ∀ p, p < sz k → usOk (uS S 19 (ofF sz (fun k p => lmN (o k) (fun w => f w p)) (S 19) n 0)) k p (o k) (fun w => f w p) (U k p)) : ev m_W_countUnsupported 0 [some (eR 0)] [] (wC S, c) = some (.inl (some (eI ((sumP sz (fun k p => pc 30 (U k p)) n : Nat) : Int))), (wC (uS S 19 (ofF sz (fun k p => lmN (o k) (fun w => f w p)) (S 19) n 0)), c)) := by
  refine xCallWV (N := 2) (M2 := m_W_countUnsupported) (pc2 := 1) (ls2 := [some (eR 0)]) (st2 := []) (y := m_W_noteOfferedLetters) (as := [some (eR 0)]) (w2 := (wC S, c)) rfl (c_noteOffered gn hn g5 go gl) ?_
  refine xSeg (N := 4) (r := ev m_W_countUnsupported 8 [some (eR 0), some (eI 0), some (eI 0)] [] (wC (uS S 19 (ofF sz (fun k p => lmN (o k) (fun w => f w p)) (S 19) n 0)), c)) rfl ?_
  exact c_cU gn hn g5 go gl hU
theorem c_sumPrizes {S : wS} {c : Nat × Nat} {n m : Nat} {o wl hd : Nat → Nat} {f : Nat → Nat → Nat} (gn : S 1 4 = (n : Int)) (hn : n ≤ 24) (gm : S 11 0 = (m : Int)) (hm : m ≤ 30) (go : ∀ k, k < n → S 15 k = (o k : Int) ∧ o k < 1073741824) (g12 : ∀ w, w < m → S 12 w = (wl w : Int) ∧ wl w ≤ 6) (g13 : ∀ w p, w < m → p < wl w → S 13 (w * 6 + p) = (f w p : Int) ∧ f w p < 26) (g14 : ∀ l, l < 26 → S 14 l = (hd l : Int) ∧ hd l ≤ 30) : ev m_W_sumPrizes 0 [some (eR 0)] [] (wC S, c) = some (.inl (some (eI ((fb_sm (fun k => fb_sm (fun w => if o k = 2 ^ w then wpz hd (wl w) (f w) else 0) m) n : Nat) : Int))), (wC S, c)) := by
  have hi : ∀ (k : Nat) (v : Int), k < n → v = (k : Int) → ∀ (s0 : Nat) (R : eRes), (∀ s y : Int, s = ((s0 + fb_sm (fun w => if o k = 2 ^ w then wpz hd (wl w) (f w) else 0) m : Nat) : Int) → ev m_W_sumPrizes 4 [some (eR 0), some (eI s), some (eI (v + 1))] [] (wC S, c) = R) → ∀ p : Nat, p ≤ m → ∀ s y : Int, s = ((s0 + fb_sm (fun w => if o k = 2 ^ w then wpz hd (wl w) (f w) else 0) p : Nat) : Int) → y = (p : Int) → ev m_W_sumPrizes 17 [some (eR 0), some (eI s), some (eI v), some (eI y)] [] (wC S, c) = R := by
    intro k v hk hv s0 R hR
    have hb := go k hk
    refine loop_up ?_ ?_
    · intro s y hs hy
      refine xLtF (N := 5) (x := y) (y := S 11 0) (A := ev m_W_sumPrizes 28 [some (eR 0), some (eI s), some (eI v), some (eI y)] [] (wC S, c)) (B := ev m_W_sumPrizes 57 [some (eR 0), some (eI s), some (eI v), some (eI y)] [] (wC S, c)) rfl (wr_id (by omega) (by omega)) (wr_id (by omega) (by omega)) (by omega) ?_
      refine xSeg (N := 2) (r := ev m_W_sumPrizes 4 [some (eR 0), some (eI s), some (eI (v + 1)), some (eI y)] [] (wC S, c)) rfl ?_
      refine xTk 3 (by rfl) rfl ?_
      exact hR s y hs
    · intro p hp ih s y hs hy
      have hs2 := fb_sm_succ (fun w => if o k = 2 ^ w then wpz hd (wl w) (f w) else 0) p
      have hw2 : 2 ^ p < 1073741824 := Nat.pow_lt_pow_right (n := 30) (by decide) (by omega)
      generalize hpw : 2 ^ p = pw at hw2
      rw [hpw] at hs2
      refine xLtT (N := 5) (x := y) (y := S 11 0) (A := ev m_W_sumPrizes 28 [some (eR 0), some (eI s), some (eI v), some (eI y)] [] (wC S, c)) (B := ev m_W_sumPrizes 57 [some (eR 0), some (eI s), some (eI v), some (eI y)] [] (wC S, c)) rfl (wr_id (by omega) (by omega)) (wr_id (by omega) (by omega)) (by omega) ?_
      refine xLd (N := 4) (n := 24) (i := v) (F := fun zq => ev m_W_sumPrizes 34 [some (eR 0), some (eI s), some (eI v), some (eI y)] [eI (S 15 zq)] (wC S, c)) (k := k) rfl (wr_nat (by omega) (by omega)) (by omega) ?_
      refine xTop (N := 3) (pc2 := 37) (ls2 := [some (eR 0), some (eI s), some (eI v), some (eI y)]) (a := bShl 1 y) (b := (pw : Int)) (st2 := [eI (S 15 k)]) (w2 := (wC S, c)) rfl (by rw [hy, bShl1_n p (by omega), hpw]) (fun z1 hz1 => ?_)
      refine xEq (N := 1) (x := S 15 k) (y := z1) (A := ev m_W_sumPrizes 40 [some (eR 0), some (eI s), some (eI v), some (eI y)] [] (wC S, c)) (B := ev m_W_sumPrizes 51 [some (eR 0), some (eI s), some (eI v), some (eI y)] [] (wC S, c)) rfl (wr_id (by omega) (by omega)) (wr_id (by omega) (by omega)) (fun h37 => ?_) (fun h37 => ?_)
      · refine xCallWI (N := 5) (v := ((wpz hd (wl p) (f p) : Nat) : Int)) (M2 := m_W_sumPrizes) (pc2 := 46) (ls2 := [some (eR 0), some (eI s), some (eI v), some (eI y)]) (st2 := [eI s]) (y := m_V_prize) (as := [some (eR 11), some (eI y)]) (w2 := (wC S, c)) rfl (c_prize (L := wl p) (f := f p) (by omega) (by omega) (g12 p (by omega)).1 (g12 p (by omega)).2 (fun q hq => g13 p q (by omega) hq) g14) (fun r46 hr46 => ?_)
        refine xSeg (N := 4) (r := ev m_W_sumPrizes 17 [some (eR 0), some (eI (s + r46)), some (eI v), some (eI (y + 1))] [] (wC S, c)) rfl ?_
        first | exact ih _ _ (by rw [hs2, if_pos (by omega)]; omega) (by omega) | exact ih _ _ (by rw [hs2, if_neg (by omega)]; omega) (by omega)
      · refine xSeg (N := 2) (r := ev m_W_sumPrizes 17 [some (eR 0), some (eI s), some (eI v), some (eI (y + 1))] [] (wC S, c)) rfl ?_
        first | exact ih _ _ (by rw [hs2, if_pos (by omega)]; omega) (by omega) | exact ih _ _ (by rw [hs2, if_neg (by omega)]; omega) (by omega)
  have hl : ∀ k : Nat, k ≤ n → ∀ s v : Int, s = ((fb_sm (fun k => fb_sm (fun w => if o k = 2 ^ w then wpz hd (wl w) (f w) else 0) m) k : Nat) : Int) → v = ((k : Nat) : Int) → ev m_W_sumPrizes 4 [some (eR 0), some (eI s), some (eI v)] [] (wC S, c) = some (.inl (some (eI ((fb_sm (fun k => fb_sm (fun w => if o k = 2 ^ w then wpz hd (wl w) (f w) else 0) m) n : Nat) : Int))), (wC S, c)) := by
    refine loop_up ?_ ?_
    · intro s v hs hv
      refine xLtF (N := 5) (x := v) (y := S 1 4) (A := ev m_W_sumPrizes 15 [some (eR 0), some (eI s), some (eI v)] [] (wC S, c)) (B := ev m_W_sumPrizes 63 [some (eR 0), some (eI s), some (eI v)] [] (wC S, c)) rfl (wr_id (by omega) (by omega)) (wr_id (by omega) (by omega)) (by omega) ?_
      refine xSeg (N := 2) (r := some (.inl (some (eI s)), (wC S, c))) rfl ?_
      rw [hs]
    · intro k hk ih s v hs hv
      refine xLtT (N := 5) (x := v) (y := S 1 4) (A := ev m_W_sumPrizes 15 [some (eR 0), some (eI s), some (eI v)] [] (wC S, c)) (B := ev m_W_sumPrizes 63 [some (eR 0), some (eI s), some (eI v)] [] (wC S, c)) rfl (wr_id (by omega) (by omega)) (wr_id (by omega) (by omega)) (by omega) ?_
      refine xSeg (N := 2) (r := ev m_W_sumPrizes 17 [some (eR 0), some (eI s), some (eI v), some (eI 0)] [] (wC S, c)) rfl ?_
      exact hi k v hk hv (fb_sm (fun k => fb_sm (fun w => if o k = 2 ^ w then wpz hd (wl w) (f w) else 0) m) k) _ (fun s2 y2 h2 => ih _ _ h2 (by omega)) 0 (Nat.zero_le _) _ _ hs rfl
  refine xSeg (N := 4) (r := ev m_W_sumPrizes 4 [some (eR 0), some (eI 0), some (eI 0)] [] (wC S, c)) rfl ?_
  exact hl 0 (Nat.zero_le _) _ _ rfl rfl
/-- the letters that the candidates of a slot (A: its number and one more, 0 none) have at a cell -/
def liOk (S : wS) (A e M : Nat) (E : Bool) : Prop := (A = 0 ∧ M = 0 ∧ E = false) ∨ (A ≠ 0 ∧ ∃ m0 d fs : Nat, ∃ f : Nat → Nat, S 15 (A - 1) = (m0 : Int) ∧ m0 < 1073741824 ∧ S 6 (A - 1) = (d : Int) ∧ d ≤ 1 ∧ S 4 (A - 1) = (fs : Int) ∧ fs ≤ e ∧ (e - fs) / strd d < 6 ∧ (∀ w, m0.testBit w = true → S 13 (w * 6 + (e - fs) / strd d) = (f w : Int) ∧ f w < 26) ∧ M = lmN m0 f ∧ E = decide (m0 = 0))
theorem liOk_lt {S : wS} {A e M : Nat} {E : Bool} (h : liOk S A e M E) : M < 67108864 := by
  rcases h with ⟨_, h, _⟩ | ⟨_, m0, d, fs, f, _, _, _, _, _, _, _, h, h2, _⟩
  · omega
  · rw [h2]; exact lmN_lt (fun w hw => (h w hw).2)
theorem c_lettersIn {S : wS} {c : Nat × Nat} {x z : Int} {A e M : Nat} {E : Bool} (hx : x = (A : Int) - 1) (hz : z = (e : Int)) (hA : A ≤ 24) (he : e < 36) (h : liOk S A e M E) : ev m_W_lettersIn 0 [some (eR 0), some (eI x), some (eI z)] [] (wC S, c) = some (.inl (some (eI (M : Int))), (wC S, c)) := by
  rcases h with ⟨h1, h2, _⟩ | ⟨h1, m0, d, fs, f, g1, g2, g3, g4, g5, g6, g7, g8, g9, _⟩
  · subst h2
    refine xEqT (N := 3) (x := x) (y := (-1)) (A := ev m_W_lettersIn 5 [some (eR 0), some (eI x), some (eI z)] [] (wC S, c)) (B := ev m_W_lettersIn 9 [some (eR 0), some (eI x), some (eI z)] [] (wC S, c)) rfl (wr_id (by omega) (by omega)) (show wr (-1) = (-1) by decide) (by omega) ?_
    refine xSeg (N := 3) (r := some (.inl (some (eI 0)), (wC S, c))) rfl ?_
    rfl
  · subst g9
    refine xEqF (N := 3) (x := x) (y := (-1)) (A := ev m_W_lettersIn 5 [some (eR 0), some (eI x), some (eI z)] [] (wC S, c)) (B := ev m_W_lettersIn 9 [some (eR 0), some (eI x), some (eI z)] [] (wC S, c)) rfl (wr_id (by omega) (by omega)) (show wr (-1) = (-1) by decide) (by omega) ?_
    refine xCallWI (N := 7) (v := (((e - fs) / strd d : Nat) : Int)) (M2 := m_W_lettersIn) (pc2 := 17) (ls2 := [some (eR 0), some (eI x), some (eI z)]) (st2 := [eI x, eR 0]) (y := m_G_placeIn) (as := [some (eR 1), some (eI x), some (eI z)]) (w2 := (wC S, c)) rfl (c_placeIn (k := A - 1) (by omega) hz (by omega) g3 g4 g5 g6 he) (fun r17 hr17 => ?_)
    refine xCallWI (N := 1) (v := ((lmN m0 f : Nat) : Int)) (M2 := m_W_lettersIn) (pc2 := 20) (ls2 := [some (eR 0), some (eI x), some (eI z)]) (st2 := []) (y := m_W_lettersAt) (as := [some (eR 0), some (eI x), some (eI r17)]) (w2 := (wC S, c)) rfl (c_lettersAt (k := A - 1) (by omega) hr17 (by omega) g7 g1 g2 g8) (fun r20 hr20 => ?_)
    refine xSeg (N := 1) (r := some (.inl (some (eI r20)), (wC S, c))) rfl ?_
    rw [hr20]
theorem c_isEmpty {S : wS} {c : Nat × Nat} {x : Int} {A e M : Nat} {E : Bool} (hx : x = (A : Int) - 1) (hA : A ≤ 24) (h : liOk S A e M E) : ev m_W_isEmpty 0 [some (eR 0), some (eI x)] [] (wC S, c) = some (.inl (some (eI (bI E))), (wC S, c)) := by
  rcases h with ⟨h1, h2, rfl⟩ | ⟨h1, m0, d, fs, f, g1, g2, g3, g4, g5, g6, g7, g8, g9, rfl⟩
  · refine xEqT (N := 3) (x := x) (y := (-1)) (A := ev m_W_isEmpty 18 [some (eR 0), some (eI x)] [] (wC S, c)) (B := ev m_W_isEmpty 5 [some (eR 0), some (eI x)] [] (wC S, c)) rfl (wr_id (by omega) (by omega)) (show wr (-1) = (-1) by decide) (by omega) ?_
    refine xRb (N := 2) (v := 0) (w2 := (wC S, c)) rfl (by decide) ?_
    rfl
  · refine xEqF (N := 3) (x := x) (y := (-1)) (A := ev m_W_isEmpty 18 [some (eR 0), some (eI x)] [] (wC S, c)) (B := ev m_W_isEmpty 5 [some (eR 0), some (eI x)] [] (wC S, c)) rfl (wr_id (by omega) (by omega)) (show wr (-1) = (-1) by decide) (by omega) ?_
    refine xLd (N := 4) (n := 24) (i := x) (F := fun zq => ev m_W_isEmpty 11 [some (eR 0), some (eI x)] [eI (S 15 zq)] (wC S, c)) (k := A - 1) rfl (wr_nat (by omega) (by omega)) (by omega) ?_
    refine xEq (N := 1) (x := S 15 (A - 1)) (y := 0) (A := ev m_W_isEmpty 14 [some (eR 0), some (eI x)] [] (wC S, c)) (B := ev m_W_isEmpty 18 [some (eR 0), some (eI x)] [] (wC S, c)) rfl (wr_id (by omega) (by omega)) (show wr 0 = 0 by decide) (fun h11 => ?_) (fun h11 => ?_)
    · refine xRb (N := 3) (v := 1) (w2 := (wC S, c)) rfl (by decide) ?_
      first | exact lf (bT (decide_eq_true (by omega))) | exact lf (bF (decide_eq_false (by omega)))
    · refine xRb (N := 2) (v := 0) (w2 := (wC S, c)) rfl (by decide) ?_
      first | exact lf (bT (decide_eq_true (by omega))) | exact lf (bF (decide_eq_false (by omega)))
/-- the sure letter out of the letters -/
def suN (ea ed : Bool) (b : Nat) : Nat := bif ea || ed || decide (pc 30 b ≠ 1) then 0 else 97 + Nat.log2 b
theorem pc_one {b t : Nat} (hb : b < 1073741824) (h : pc 30 b = 1) (h1 : b.testBit t = true) (h2 : ∀ i, i < t → b.testBit i = false) : b = 2 ^ t := by
  have h3 := pc_low hb h1 h2
  have h4 := low_n hb h1 h2
  have h5 := pc_0 (m := b &&& (b - 1)) (Nat.lt_of_le_of_lt Nat.and_le_left hb) (by omega)
  apply Nat.eq_of_testBit_eq
  intro i
  rw [Nat.testBit_two_pow]
  have h6 := h4.2.2 i
  rw [h5 i] at h6
  by_cases hi : i = t
  · subst hi; rw [h1]; simp
  · simp [hi] at h6
    rw [h6]
    simp [show t ≠ i from fun e => hi e.symm]
theorem c_sureAt {S : wS} {c : Nat × Nat} {z : Int} {e A D MA MD : Nat} {EA ED : Bool} (hz : z = (e : Int)) (he : e < 36) (g7 : S 7 e = (A : Int) - 1) (g8 : S 8 e = (D : Int) - 1) (hA : A ≤ 24) (hD : D ≤ 24) (h1 : liOk S A e MA EA) (h2 : liOk S D e MD ED) : ev m_W_sureAt 0 [some (eR 0), some (eI z)] [] (wC S, c) = some (.inl (some (eI ((suN EA ED (MA ||| MD) : Nat) : Int))), (wC S, c)) := by
  have ha := liOk_lt h1
  have hd := liOk_lt h2
  have hb : (MA ||| MD) < 67108864 := Nat.or_lt_two_pow (n := 26) ha hd
  have hp := pc_le 30 (MA ||| MD)
  have hlow : pc 30 (MA ||| MD) = 1 → ∃ t, (MA ||| MD).testBit t = true ∧ (∀ i, i < t → (MA ||| MD).testBit i = false) ∧ t = Nat.log2 (MA ||| MD) := fun h => by
    obtain ⟨t, e1, e2⟩ := low_get (r := MA ||| MD) (by omega) (by omega)
    refine ⟨t, e1, e2, ?_⟩
    rw [pc_one (by omega) h e1 e2, Nat.log2_two_pow]
  refine xLd (N := 5) (n := 36) (i := z) (F := fun zq => ev m_W_sureAt 9 [some (eR 0), some (eI z)] [eI (S 7 zq)] (wC S, c)) (k := e) rfl (wr_nat (by omega) (by omega)) (by omega) ?_
  refine xLd (N := 6) (n := 36) (i := z) (F := fun zq => ev m_W_sureAt 19 [some (eR 0), some (eI z), some (eI (S 7 e))] [eI (S 8 zq)] (wC S, c)) (k := e) rfl (wr_nat (by omega) (by omega)) (by omega) ?_
  refine xCallWI (N := 5) (v := (MA : Int)) (M2 := m_W_sureAt) (pc2 := 23) (ls2 := [some (eR 0), some (eI z), some (eI (S 7 e)), some (eI (S 8 e))]) (st2 := []) (y := m_W_lettersIn) (as := [some (eR 0), some (eI (S 7 e)), some (eI z)]) (w2 := (wC S, c)) rfl (c_lettersIn g7 hz hA he h1) (fun r23 hr23 => ?_)
  refine xCallWI (N := 4) (v := (MD : Int)) (M2 := m_W_sureAt) (pc2 := 29) (ls2 := [some (eR 0), some (eI z), some (eI (S 7 e)), some (eI (S 8 e))]) (st2 := [eI r23]) (y := m_W_lettersIn) (as := [some (eR 0), some (eI (S 8 e)), some (eI z)]) (w2 := (wC S, c)) rfl (c_lettersIn g8 hz hD he h2) (fun r29 hr29 => ?_)
  refine xTop (N := 1) (pc2 := 33) (ls2 := [some (eR 0), some (eI z), some (eI (S 7 e)), some (eI (S 8 e))]) (a := bOr r23 r29) (b := ((MA ||| MD : Nat) : Int)) (st2 := []) (w2 := (wC S, c)) rfl (by rw [hr23, hr29, bOr_n (by omega) (by omega)]) (fun q4 hq4 => ?_)
  refine xCallWI (N := 4) (v := bI EA) (M2 := m_W_sureAt) (pc2 := 37) (ls2 := [some (eR 0), some (eI z), some (eI (S 7 e)), some (eI (S 8 e)), some (eI q4)]) (st2 := []) (y := m_W_isEmpty) (as := [some (eR 0), some (eI (S 7 e))]) (w2 := (wC S, c)) rfl (c_isEmpty g7 hA h1) (fun r37 hr37 => ?_)
  have hqa := bI_1 hr37
  refine xEq (N := 1) (x := r37) (y := 0) (A := ev m_W_sureAt 43 [some (eR 0), some (eI z), some (eI (S 7 e)), some (eI (S 8 e)), some (eI q4)] [] (wC S, c)) (B := ev m_W_sureAt 51 [some (eR 0), some (eI z), some (eI (S 7 e)), some (eI (S 8 e)), some (eI q4)] [] (wC S, c)) rfl (wr_id (by omega) (by omega)) (show wr 0 = 0 by decide) (fun h40 => ?_) (fun h40 => ?_)
  · refine xCallWI (N := 3) (v := bI ED) (M2 := m_W_sureAt) (pc2 := 45) (ls2 := [some (eR 0), some (eI z), some (eI (S 7 e)), some (eI (S 8 e)), some (eI q4)]) (st2 := []) (y := m_W_isEmpty) (as := [some (eR 0), some (eI (S 8 e))]) (w2 := (wC S, c)) rfl (c_isEmpty g8 hD h2) (fun r45 hr45 => ?_)
    have hqd := bI_1 hr45
    refine xEq (N := 1) (x := r45) (y := 0) (A := ev m_W_sureAt 55 [some (eR 0), some (eI z), some (eI (S 7 e)), some (eI (S 8 e)), some (eI q4)] [] (wC S, c)) (B := ev m_W_sureAt 51 [some (eR 0), some (eI z), some (eI (S 7 e)), some (eI (S 8 e)), some (eI q4)] [] (wC S, c)) rfl (wr_id (by omega) (by omega)) (show wr 0 = 0 by decide) (fun h48 => ?_) (fun h48 => ?_)
    · refine xEqT (N := 4) (x := 0) (y := 0) (A := ev m_W_sureAt 63 [some (eR 0), some (eI z), some (eI (S 7 e)), some (eI (S 8 e)), some (eI q4), some (eI 0)] [] (wC S, c)) (B := ev m_W_sureAt 72 [some (eR 0), some (eI z), some (eI (S 7 e)), some (eI (S 8 e)), some (eI q4), some (eI 0)] [] (wC S, c)) rfl (show wr 0 = 0 by decide) (show wr 0 = 0 by decide) (by decide) ?_
      refine xCallI (N := 2) (v := ((pc 30 (MA ||| MD) : Nat) : Int)) (M2 := m_W_sureAt) (pc2 := 65) (ls2 := [some (eR 0), some (eI z), some (eI (S 7 e)), some (eI (S 8 e)), some (eI q4), some (eI 0)]) (st2 := []) (y := m_J_bitCount) (as := [some (eI q4)]) (w2 := (wC S, c)) rfl (c_bitCount hq4 (by omega)) (fun r65 hr65 => ?_)
      refine xEq (N := 2) (x := r65) (y := 1) (A := ev m_W_sureAt 74 [some (eR 0), some (eI z), some (eI (S 7 e)), some (eI (S 8 e)), some (eI q4), some (eI 0)] [] (wC S, c)) (B := ev m_W_sureAt 72 [some (eR 0), some (eI z), some (eI (S 7 e)), some (eI (S 8 e)), some (eI q4), some (eI 0)] [] (wC S, c)) rfl (wr_id (by omega) (by omega)) (show wr 1 = 1 by decide) (fun h69 => ?_) (fun h69 => ?_)
      · obtain ⟨t, e1, e2, e3⟩ := hlow (by omega)
        refine xCallI (N := 3) (v := (t : Int)) (M2 := m_W_sureAt) (pc2 := 78) (ls2 := [some (eR 0), some (eI z), some (eI (S 7 e)), some (eI (S 8 e)), some (eI q4), some (eI 0)]) (st2 := [eI 97]) (y := m_J_numberOfTrailingZeros) (as := [some (eI q4)]) (w2 := (wC S, c)) rfl (c_ntz hq4 (by omega) e1 e2) (fun r78 hr78 => ?_)
        refine xSeg (N := 2) (r := some (.inl (some (eI (97 + r78))), (wC S, c))) rfl ?_
        exact lf (by unfold suN; rw [hqa.2.2.mp (by omega), hqd.2.2.mp (by omega), decide_eq_false (by omega)]; simp only [Bool.or_false, cond_false]; omega)
      · refine xSeg (N := 2) (r := some (.inl (some (eI 0)), (wC S, c))) rfl ?_
        first | exact lf (by unfold suN; rw [hqa.2.1.mp (by omega)]; rfl) | exact lf (by unfold suN; rw [hqd.2.1.mp (by omega), Bool.or_true]; rfl) | exact lf (by unfold suN; rw [decide_eq_true (by omega), Bool.or_true]; rfl)
    · refine xEqF (N := 5) (x := 1) (y := 0) (A := ev m_W_sureAt 63 [some (eR 0), some (eI z), some (eI (S 7 e)), some (eI (S 8 e)), some (eI q4), some (eI 1)] [] (wC S, c)) (B := ev m_W_sureAt 72 [some (eR 0), some (eI z), some (eI (S 7 e)), some (eI (S 8 e)), some (eI q4), some (eI 1)] [] (wC S, c)) rfl (show wr 1 = 1 by decide) (show wr 0 = 0 by decide) (by decide) ?_
      refine xSeg (N := 2) (r := some (.inl (some (eI 0)), (wC S, c))) rfl ?_
      first | exact lf (by unfold suN; rw [hqa.2.1.mp (by omega)]; rfl) | exact lf (by unfold suN; rw [hqd.2.1.mp (by omega), Bool.or_true]; rfl) | exact lf (by unfold suN; rw [decide_eq_true (by omega), Bool.or_true]; rfl)
  · refine xEqF (N := 5) (x := 1) (y := 0) (A := ev m_W_sureAt 63 [some (eR 0), some (eI z), some (eI (S 7 e)), some (eI (S 8 e)), some (eI q4), some (eI 1)] [] (wC S, c)) (B := ev m_W_sureAt 72 [some (eR 0), some (eI z), some (eI (S 7 e)), some (eI (S 8 e)), some (eI q4), some (eI 1)] [] (wC S, c)) rfl (show wr 1 = 1 by decide) (show wr 0 = 0 by decide) (by decide) ?_
    refine xSeg (N := 2) (r := some (.inl (some (eI 0)), (wC S, c))) rfl ?_
    first | exact lf (by unfold suN; rw [hqa.2.1.mp (by omega)]; rfl) | exact lf (by unfold suN; rw [hqd.2.1.mp (by omega), Bool.or_true]; rfl) | exact lf (by unfold suN; rw [decide_eq_true (by omega), Bool.or_true]; rfl)
theorem c_signOf {S : wS} {c : Nat × Nat} {z : Int} {e b su : Nat} (hz : z = (e : Int)) (he : e < 36) (g2 : S 2 e = (b : Int)) (hb : b ≤ 1) (hsu : ev m_W_sureAt 0 [some (eR 0), some (eI z)] [] (wC S, c) = some (.inl (some (eI (su : Int))), (wC S, c))) (hs : su < 1000) : ev m_W_signOf 0 [some (eR 0), some (eI z)] [] (wC S, c) = some (.inl (some (eI ((if b ≠ 0 then 35 else if su = 0 then 46 else su : Nat) : Int))), (wC S, c)) := by
  refine xLd (N := 5) (n := 36) (i := z) (F := fun zq => ev m_W_signOf 9 [some (eR 0), some (eI z)] [eI (S 2 zq)] (wC S, c)) (k := e) rfl (wr_nat (by omega) (by omega)) (by omega) ?_
  refine xEq (N := 1) (x := S 2 e) (y := 0) (A := ev m_W_signOf 15 [some (eR 0), some (eI z)] [] (wC S, c)) (B := ev m_W_signOf 12 [some (eR 0), some (eI z)] [] (wC S, c)) rfl (wr_id (by omega) (by omega)) (show wr 0 = 0 by decide) (fun h9 => ?_) (fun h9 => ?_)
  · refine xCallWI (N := 3) (v := (su : Int)) (M2 := m_W_signOf) (pc2 := 17) (ls2 := [some (eR 0), some (eI z)]) (st2 := []) (y := m_W_sureAt) (as := [some (eR 0), some (eI z)]) (w2 := (wC S, c)) rfl hsu (fun r17 hr17 => ?_)
    refine xEq (N := 3) (x := r17) (y := 0) (A := ev m_W_signOf 25 [some (eR 0), some (eI z), some (eI r17)] [] (wC S, c)) (B := ev m_W_signOf 30 [some (eR 0), some (eI z), some (eI r17)] [] (wC S, c)) rfl (wr_id (by omega) (by omega)) (show wr 0 = 0 by decide) (fun h22 => ?_) (fun h22 => ?_)
    · refine xSeg (N := 3) (r := some (.inl (some (eI 46)), (wC S, c))) rfl ?_
      first | exact lf (by rw [if_pos (by omega)]; rfl) | exact lf (by rw [if_neg (by omega), if_pos (by omega)]; rfl) | exact lf (by rw [if_neg (by omega), if_neg (by omega)]; omega)
    · refine xSeg (N := 2) (r := some (.inl (some (eI r17)), (wC S, c))) rfl ?_
      first | exact lf (by rw [if_pos (by omega)]; rfl) | exact lf (by rw [if_neg (by omega), if_pos (by omega)]; rfl) | exact lf (by rw [if_neg (by omega), if_neg (by omega)]; omega)
  · refine xSeg (N := 2) (r := some (.inl (some (eI 35)), (wC S, c))) rfl ?_
    first | exact lf (by rw [if_pos (by omega)]; rfl) | exact lf (by rw [if_neg (by omega), if_pos (by omega)]; rfl) | exact lf (by rw [if_neg (by omega), if_neg (by omega)]; omega)
theorem c_countSure {S : wS} {c : Nat × Nat} {W H : Nat} {su : Nat → Nat} (g0 : S 1 0 = (W : Int)) (g1 : S 1 1 = (H : Int)) (gW : W < 7) (gH : H < 7) (hsu : ∀ (e : Nat) (z : Int), z = (e : Int) → e < 36 → ev m_W_sureAt 0 [some (eR 0), some (eI z)] [] (wC S, c) = some (.inl (some (eI (su e : Int))), (wC S, c)) ∧ su e < 1000) : ev m_W_countSure 0 [some (eR 0)] [] (wC S, c) = some (.inl (some (eI ((sumG W (fun x y => if su (y * 6 + x) ≠ 0 then 1 else 0) H : Nat) : Int))), (wC S, c)) := by
  have hi : ∀ (j : Nat) (v : Int), j < H → v = (j : Int) → ∀ (s0 : Nat) (R : eRes), (∀ (s x : Int), s = ((s0 + fb_sm (fun x => if su (j * 6 + x) ≠ 0 then 1 else 0) W : Nat) : Int) → ev m_W_countSure 4 [some (eR 0), some (eI s), some (eI (v + 1))] [] (wC S, c) = R) → ∀ p : Nat, p ≤ W → ∀ s y : Int, s = ((s0 + fb_sm (fun x => if su (j * 6 + x) ≠ 0 then 1 else 0) p : Nat) : Int) → y = (p : Int) → ev m_W_countSure 17 [some (eR 0), some (eI s), some (eI v), some (eI y)] [] (wC S, c) = R := by
    intro j v hj hv s0 R hR
    refine loop_up ?_ ?_
    · intro s y hs hy
      refine xLtF (N := 5) (x := y) (y := S 1 0) (A := ev m_W_countSure 28 [some (eR 0), some (eI s), some (eI v), some (eI y)] [] (wC S, c)) (B := ev m_W_countSure 49 [some (eR 0), some (eI s), some (eI v), some (eI y)] [] (wC S, c)) rfl (wr_id (by omega) (by omega)) (wr_id (by omega) (by omega)) (by omega) ?_
      refine xSeg (N := 2) (r := ev m_W_countSure 4 [some (eR 0), some (eI s), some (eI (v + 1)), some (eI y)] [] (wC S, c)) rfl ?_
      refine xTk 3 (by rfl) rfl ?_
      exact hR s y hs
    · intro p hp ih s y hs hy
      have hs2 := fb_sm_succ (fun x => if su (j * 6 + x) ≠ 0 then 1 else 0) p
      have hq := fun z hz => hsu (j * 6 + p) z hz (by omega)
      have hq2 := (hq _ rfl).2
      refine xLtT (N := 5) (x := y) (y := S 1 0) (A := ev m_W_countSure 28 [some (eR 0), some (eI s), some (eI v), some (eI y)] [] (wC S, c)) (B := ev m_W_countSure 49 [some (eR 0), some (eI s), some (eI v), some (eI y)] [] (wC S, c)) rfl (wr_id (by omega) (by omega)) (wr_id (by omega) (by omega)) (by omega) ?_
      refine xCallI (N := 4) (v := v * 6 + y) (M2 := m_W_countSure) (pc2 := 31) (ls2 := [some (eR 0), some (eI s), some (eI v), some (eI y)]) (st2 := [eR 0]) (y := m_G_cell) (as := [some (eI y), some (eI v)]) (w2 := (wC S, c)) rfl c_cell (fun r31 hr31 => ?_)
      refine xCallWI (N := 1) (v := (su (j * 6 + p) : Int)) (M2 := m_W_countSure) (pc2 := 34) (ls2 := [some (eR 0), some (eI s), some (eI v), some (eI y)]) (st2 := []) (y := m_W_sureAt) (as := [some (eR 0), some (eI r31)]) (w2 := (wC S, c)) rfl (hq r31 (by omega)).1 (fun r34 hr34 => ?_)
      refine xEq (N := 1) (x := r34) (y := 0) (A := ev m_W_countSure 43 [some (eR 0), some (eI s), some (eI v), some (eI y)] [] (wC S, c)) (B := ev m_W_countSure 40 [some (eR 0), some (eI s), some (eI v), some (eI y)] [] (wC S, c)) rfl (wr_id (by omega) (by omega)) (show wr 0 = 0 by decide) (fun h37 => ?_) (fun h37 => ?_)
      · refine xSeg (N := 2) (r := ev m_W_countSure 17 [some (eR 0), some (eI s), some (eI v), some (eI (y + 1))] [] (wC S, c)) rfl ?_
        first | exact ih _ _ (by rw [hs2, if_pos (by omega)]; omega) (by omega) | exact ih _ _ (by rw [hs2, if_neg (by omega)]; omega) (by omega)
      · refine xSeg (N := 3) (r := ev m_W_countSure 17 [some (eR 0), some (eI (s + 1)), some (eI v), some (eI (y + 1))] [] (wC S, c)) rfl ?_
        first | exact ih _ _ (by rw [hs2, if_pos (by omega)]; omega) (by omega) | exact ih _ _ (by rw [hs2, if_neg (by omega)]; omega) (by omega)
  have hl : ∀ j : Nat, j ≤ H → ∀ s v : Int, s = ((sumG W (fun x y => if su (y * 6 + x) ≠ 0 then 1 else 0) j : Nat) : Int) → v = ((j : Nat) : Int) → ev m_W_countSure 4 [some (eR 0), some (eI s), some (eI v)] [] (wC S, c) = some (.inl (some (eI ((sumG W (fun x y => if su (y * 6 + x) ≠ 0 then 1 else 0) H : Nat) : Int))), (wC S, c)) := by
    refine loop_up ?_ ?_
    · intro s v hs hv
      refine xLtF (N := 5) (x := v) (y := S 1 1) (A := ev m_W_countSure 15 [some (eR 0), some (eI s), some (eI v)] [] (wC S, c)) (B := ev m_W_countSure 55 [some (eR 0), some (eI s), some (eI v)] [] (wC S, c)) rfl (wr_id (by omega) (by omega)) (wr_id (by omega) (by omega)) (by omega) ?_
      refine xSeg (N := 2) (r := some (.inl (some (eI s)), (wC S, c))) rfl ?_
      rw [hs]
    · intro j hj ih s v hs hv
      refine xLtT (N := 5) (x := v) (y := S 1 1) (A := ev m_W_countSure 15 [some (eR 0), some (eI s), some (eI v)] [] (wC S, c)) (B := ev m_W_countSure 55 [some (eR 0), some (eI s), some (eI v)] [] (wC S, c)) rfl (wr_id (by omega) (by omega)) (wr_id (by omega) (by omega)) (by omega) ?_
      refine xSeg (N := 2) (r := ev m_W_countSure 17 [some (eR 0), some (eI s), some (eI v), some (eI 0)] [] (wC S, c)) rfl ?_
      exact hi j v hj hv (sumG W (fun x y => if su (y * 6 + x) ≠ 0 then 1 else 0) j) _ (fun s2 x2 h2 => ih _ _ h2 (by omega)) 0 (Nat.zero_le _) _ _ hs rfl
  refine xSeg (N := 4) (r := ev m_W_countSure 4 [some (eR 0), some (eI 0), some (eI 0)] [] (wC S, c)) rfl ?_
  exact hl 0 (Nat.zero_le _) _ _ rfl rfl
theorem c_fits {S : wS} {c : Nat × Nat} {x z : Int} {k w L d fs wl : Nat} {G f : Nat → Nat} (hx : x = (k : Int)) (hz : z = (w : Int)) (hk : k < 24) (hw : w < 30) (g12 : S 12 w = (wl : Int)) (hwl : wl ≤ 6) (g5 : S 5 k = (L : Int)) (hL : L ≤ 6) (g6 : S 6 k = (d : Int)) (hd : d ≤ 1) (g4 : S 4 k = (fs : Int)) (g3 : ∀ p, p < L → fs + p * strd d < 36 ∧ S 3 (fs + p * strd d) = (G p : Int) ∧ G p < 128) (g13 : ∀ p, p < wl → S 13 (w * 6 + p) = (f p : Int) ∧ f p < 26) : ev m_W_fits 0 [some (eR 0), some (eI x), some (eI z)] [] (wC S, c) = some (.inl (some (eI (bI (decide (wl = L) && allN (fun p => decide (G p = 0 ∨ G p = 97 + f p)) L)))), (wC S, c)) := by
  have hl : wl = L → ∀ p : Nat, p ≤ L → ∀ y : Int, y = (p : Int) → (∀ q, q < p → (G q = 0 ∨ G q = 97 + f q)) → ev m_W_fits 25 [some (eR 0), some (eI x), some (eI z), some (eI y)] [] (wC S, c) = some (.inl (some (eI (bI (decide (wl = L) && allN (fun p => decide (G p = 0 ∨ G p = 97 + f p)) L)))), (wC S, c)) := by
    intro hwL
    refine loop_up ?_ ?_
    · intro y hy ha
      refine xLd (N := 6) (n := 24) (i := x) (F := fun zq => ev m_W_fits 35 [some (eR 0), some (eI x), some (eI z), some (eI y)] [eI (S 5 zq), eI y] (wC S, c)) (k := k) rfl (wr_nat (by omega) (by omega)) (by omega) ?_
      refine xLtF (N := 1) (x := y) (y := S 5 k) (A := ev m_W_fits 38 [some (eR 0), some (eI x), some (eI z), some (eI y)] [] (wC S, c)) (B := ev m_W_fits 103 [some (eR 0), some (eI x), some (eI z), some (eI y)] [] (wC S, c)) rfl (wr_id (by omega) (by omega)) (wr_id (by omega) (by omega)) (by omega) ?_
      refine xRb (N := 2) (v := 1) (w2 := (wC S, c)) rfl (by decide) ?_
      exact lf (bT (by rw [decide_eq_true hwL, allN_iff.mpr (fun q hq => decide_eq_true (ha q hq))]; rfl))
    · intro p hp ih y hy ha
      have hb := g3 p hp
      have hc := g13 p (by omega)
      have ih2 : (G p = 0 ∨ G p = 97 + f p) → ∀ q, q < p + 1 → (G q = 0 ∨ G q = 97 + f q) := fun h q hq => by
        by_cases hqp : q = p
        · subst hqp; exact h
        · exact ha q (by omega)
      refine xLd (N := 6) (n := 24) (i := x) (F := fun zq => ev m_W_fits 35 [some (eR 0), some (eI x), some (eI z), some (eI y)] [eI (S 5 zq), eI y] (wC S, c)) (k := k) rfl (wr_nat (by omega) (by omega)) (by omega) ?_
      refine xLtT (N := 1) (x := y) (y := S 5 k) (A := ev m_W_fits 38 [some (eR 0), some (eI x), some (eI z), some (eI y)] [] (wC S, c)) (B := ev m_W_fits 103 [some (eR 0), some (eI x), some (eI z), some (eI y)] [] (wC S, c)) rfl (wr_id (by omega) (by omega)) (wr_id (by omega) (by omega)) (by omega) ?_
      refine xLd (N := 8) (n := 24) (i := x) (F := fun zq => ev m_W_fits 54 [some (eR 0), some (eI x), some (eI z), some (eI y)] [eI (S 4 zq), eR 3] (wC S, c)) (k := k) rfl (wr_nat (by omega) (by omega)) (by omega) ?_
      refine xCallI (N := 5) (v := ((strd d : Nat) : Int)) (M2 := m_W_fits) (pc2 := 60) (ls2 := [some (eR 0), some (eI x), some (eI z), some (eI y)]) (st2 := [eI y, eI (S 4 k), eR 3]) (y := m_G_stride) (as := [some (eR 1), some (eI x)]) (w2 := (wC S, c)) rfl (c_stride hx hk g6 hd) (fun r60 hr60 => ?_)
      refine xTop (N := 2) (pc2 := 65) (ls2 := [some (eR 0), some (eI x), some (eI z), some (eI y)]) (a := (S 4 k) + (y * r60)) (b := ((fs + p * strd d : Nat) : Int)) (st2 := [eR 3]) (w2 := (wC S, c)) rfl (by rw [g4, hr60, hy]; rfl) (fun q5 hq5 => ?_)
      refine xLd (N := 1) (n := 36) (i := q5) (F := fun zq => ev m_W_fits 66 [some (eR 0), some (eI x), some (eI z), some (eI y)] [eI (S 3 zq)] (wC S, c)) (k := fs + p * strd d) rfl (wr_nat (by omega) (by omega)) (by omega) ?_
      refine xEq (N := 3) (x := S 3 (fs + p * strd d)) (y := 0) (A := ev m_W_fits 97 [some (eR 0), some (eI x), some (eI z), some (eI y), some (eI (S 3 (fs + p * strd d)))] [] (wC S, c)) (B := ev m_W_fits 73 [some (eR 0), some (eI x), some (eI z), some (eI y), some (eI (S 3 (fs + p * strd d)))] [] (wC S, c)) rfl (wr_id (by omega) (by omega)) (show wr 0 = 0 by decide) (fun h70 => ?_) (fun h70 => ?_)
      · refine xSeg (N := 2) (r := ev m_W_fits 25 [some (eR 0), some (eI x), some (eI z), some (eI (y + 1)), some (eI (S 3 (fs + p * strd d)))] [] (wC S, c)) rfl ?_
        refine xTk 4 (by rfl) rfl ?_
        exact ih _ (by omega) (ih2 (by omega))
      · refine xLd (N := 12) (n := 180) (i := (z * 6) + y) (F := fun zq => ev m_W_fits 92 [some (eR 0), some (eI x), some (eI z), some (eI y), some (eI (S 3 (fs + p * strd d)))] [eI (S 13 zq), eI ((S 3 (fs + p * strd d)) - 97)] (wC S, c)) (k := (w * 6) + p) rfl (wr_nat (by omega) (by omega)) (by omega) ?_
        refine xEq (N := 1) (x := (S 3 (fs + p * strd d)) - 97) (y := S 13 ((w * 6) + p)) (A := ev m_W_fits 97 [some (eR 0), some (eI x), some (eI z), some (eI y), some (eI (S 3 (fs + p * strd d)))] [] (wC S, c)) (B := ev m_W_fits 95 [some (eR 0), some (eI x), some (eI z), some (eI y), some (eI (S 3 (fs + p * strd d)))] [] (wC S, c)) rfl (wr_id (by omega) (by omega)) (wr_id (by omega) (by omega)) (fun h92 => ?_) (fun h92 => ?_)
        · refine xSeg (N := 2) (r := ev m_W_fits 25 [some (eR 0), some (eI x), some (eI z), some (eI (y + 1)), some (eI (S 3 (fs + p * strd d)))] [] (wC S, c)) rfl ?_
          refine xTk 4 (by rfl) rfl ?_
          exact ih _ (by omega) (ih2 (by omega))
        · refine xRb (N := 2) (v := 0) (w2 := (wC S, c)) rfl (by decide) ?_
          exact lf (bF (by rw [allN_F hp (decide_eq_false (by omega)), Bool.and_false]))
  refine xLd (N := 5) (n := 30) (i := z) (F := fun zq => ev m_W_fits 9 [some (eR 0), some (eI x), some (eI z)] [eI (S 12 zq)] (wC S, c)) (k := w) rfl (wr_nat (by omega) (by omega)) (by omega) ?_
  refine xLd (N := 5) (n := 24) (i := x) (F := fun zq => ev m_W_fits 18 [some (eR 0), some (eI x), some (eI z)] [eI (S 5 zq), eI (S 12 w)] (wC S, c)) (k := k) rfl (wr_nat (by omega) (by omega)) (by omega) ?_
  refine xEq (N := 1) (x := S 12 w) (y := S 5 k) (A := ev m_W_fits 23 [some (eR 0), some (eI x), some (eI z)] [] (wC S, c)) (B := ev m_W_fits 21 [some (eR 0), some (eI x), some (eI z)] [] (wC S, c)) rfl (wr_id (by omega) (by omega)) (wr_id (by omega) (by omega)) (fun h18 => ?_) (fun h18 => ?_)
  · refine xSeg (N := 2) (r := ev m_W_fits 25 [some (eR 0), some (eI x), some (eI z), some (eI 0)] [] (wC S, c)) rfl ?_
    exact hl (by omega) 0 (Nat.zero_le _) _ rfl (fun q hq => absurd hq (by omega))
  · refine xRb (N := 2) (v := 0) (w2 := (wC S, c)) rfl (by decide) ?_
    exact lf (bF (by rw [decide_eq_false (by omega)]; rfl))
