/-! The class's window: letters, support, what is sure. -/
theorem uI_uS {S : wS} {a i : Nat} {f : Nat → Int} {v : Int} : uI (uS S a f) a i v = uS S a (eUp f i v) := by
  funext b
  unfold uI uS
  cases h : Nat.beq b a with
  | true => rw [cond_true, cond_true, show Nat.beq a a = true from Nat.beq_refl a, cond_true]
  | false => rw [cond_false, cond_false, cond_false]
theorem uS_self {S : wS} {a : Nat} : uS S a (S a) = S := by
  funext b
  unfold uS
  cases h : Nat.beq b a with
  | true => rw [cond_true, Nat.eq_of_beq_eq_true h]
  | false => rw [cond_false]
theorem uS_at {S : wS} {a : Nat} {f : Nat → Int} : uS S a f a = f := by
  unfold uS
  rw [show Nat.beq a a = true from Nat.beq_refl a, cond_true]
theorem uS_uS {S : wS} {a : Nat} {f g : Nat → Int} : uS (uS S a f) a g = uS S a g := by
  funext b
  unfold uS
  cases h : Nat.beq b a <;> rfl
/-- the letters f that the words of the mask have -/
def lmN (m0 : Nat) (f : Nat → Nat) : Nat := orN (fun w => bif m0.testBit w then 2 ^ f w else 0) 30
theorem lmN_lt {m0 : Nat} {f : Nat → Nat} (h : ∀ w, m0.testBit w = true → f w < 26) : lmN m0 f < 67108864 := orN_lt (q := 26) (fun i _ => by
  cases hb : m0.testBit i with
  | true => exact Nat.pow_lt_pow_right (by decide) (h i hb)
  | false => exact Nat.two_pow_pos 26)
set_option maxRecDepth 100000
theorem c_lettersAt {S : wS} {c : Nat × Nat} {x z : Int} {k p m0 : Nat} {f : Nat → Nat} (hx : x = (k : Int)) (hz : z = (p : Int)) (hk : k < 24) (hp : p < 6) (g : S 15 k = (m0 : Int)) (hm : m0 < 1073741824) (gl : ∀ w, m0.testBit w = true → S 13 (w * 6 + p) = (f w : Int) ∧ f w < 26) : ev m_W_lettersAt 0 [some (eR 0), some (eI x), some (eI z)] [] (wC S, c) = some (.inl (some (eI ((lmN m0 f : Nat) : Int))), (wC S, c)) := by
  unfold lmN
  generalize hFF : (fun w => bif m0.testBit w then 2 ^ f w else 0) = F
  have hF : ∀ i, m0.testBit i = false → F i = 0 := fun i h => by rw [← hFF]; simp [h]
  have hFl : ∀ i, F i < 2 ^ 30 := fun i => by
    rw [← hFF]
    dsimp only
    cases hb : m0.testBit i with
    | true => exact Nat.pow_lt_pow_right (by decide) (by have := (gl i hb).2; omega)
    | false => exact Nat.two_pow_pos 30
  have hl : ∀ d : Nat, ∀ (j r : Nat) (s v u : Int), s = ((orN F j : Nat) : Int) → v = (r : Int) → u = (d : Int) → r < 1073741824 → (∀ i, r.testBit i = (decide (j ≤ i) && m0.testBit i)) → pc 30 r = d → j ≤ 30 → ev m_W_lettersAt 17 [some (eR 0), some (eI x), some (eI z), some (eI s), some (eI v), some (eI u)] [] (wC S, c) = some (.inl (some (eI ((orN F 30 : Nat) : Int))), (wC S, c)) := by
    intro d
    induction d with
    | zero =>
      intro j r s v u hs hv hu hr hj hd hj30
      refine xLtF (N := 2) (x := 0) (y := u) (A := ev m_W_lettersAt 22 [some (eR 0), some (eI x), some (eI z), some (eI s), some (eI v), some (eI u)] [] (wC S, c)) (B := ev m_W_lettersAt 64 [some (eR 0), some (eI x), some (eI z), some (eI s), some (eI v), some (eI u)] [] (wC S, c)) rfl (show wr 0 = 0 by decide) (wr_id (by omega) (by omega)) (by omega) ?_
      refine xSeg (N := 2) (r := some (.inl (some (eI s)), (wC S, c))) rfl ?_
      rw [bits_end hm hr hj30 hj hF hd, hs]
    | succ d ih =>
      intro j r s v u hs hv hu hr hj hd hj30
      obtain ⟨t, ht1, ht2⟩ := low_get hr (by omega)
      obtain ⟨b1, b2, b3, b4, b5, b6, b7⟩ := bits_step hr hj hF hd ht1 ht2
      have hd30 := pc_le 30 r
      have hg := gl t b3
      refine xLtT (N := 2) (x := 0) (y := u) (A := ev m_W_lettersAt 22 [some (eR 0), some (eI x), some (eI z), some (eI s), some (eI v), some (eI u)] [] (wC S, c)) (B := ev m_W_lettersAt 64 [some (eR 0), some (eI x), some (eI z), some (eI s), some (eI v), some (eI u)] [] (wC S, c)) rfl (show wr 0 = 0 by decide) (wr_id (by omega) (by omega)) (by omega) ?_
      refine xCallI (N := 2) (v := (t : Int)) (M2 := m_W_lettersAt) (pc2 := 24) (ls2 := [some (eR 0), some (eI x), some (eI z), some (eI s), some (eI v), some (eI u)]) (st2 := []) (y := m_J_numberOfTrailingZeros) (as := [some (eI v)]) (w2 := (wC S, c)) rfl (c_ntz hv hr ht1 ht2) (fun r24 hr24 => ?_)
      refine xLd (N := 12) (n := 180) (i := (r24 * 6) + z) (F := fun zq => ev m_W_lettersAt 46 [some (eR 0), some (eI x), some (eI z), some (eI s), some (eI v), some (eI u), some (eI r24)] [eI (S 13 zq), eI 1, eI s] (wC S, c)) (k := (t * 6) + p) rfl (wr_nat (by omega) (by omega)) (by omega) ?_
      refine xTop (N := 2) (pc2 := 48) (ls2 := [some (eR 0), some (eI x), some (eI z), some (eI s), some (eI v), some (eI u), some (eI r24)]) (a := bOr s (bShl 1 (S 13 ((t * 6) + p)))) (b := ((orN F j ||| 2 ^ f t : Nat) : Int)) (st2 := []) (w2 := (wC S, c)) rfl (i_or hs (orN_lt (q := 30) (fun i _ => hFl i)) hg.1 (by omega)) (fun s2 hs2 => ?_)
      refine xTop (N := 6) (pc2 := 56) (ls2 := [some (eR 0), some (eI x), some (eI z), some (eI s2), some (eI v), some (eI u), some (eI r24)]) (a := bAnd v (v - 1)) (b := ((r &&& (r - 1) : Nat) : Int)) (st2 := []) (w2 := (wC S, c)) rfl (i_dec hv hr (by omega)) (fun v2 hv2 => ?_)
      refine xSeg (N := 3) (r := ev m_W_lettersAt 17 [some (eR 0), some (eI x), some (eI z), some (eI s2), some (eI v2), some (eI (u + (-1))), some (eI r24)] [] (wC S, c)) rfl ?_
      refine xTk 6 (by rfl) rfl ?_
      refine ih (t + 1) (r &&& (r - 1)) _ _ _ ?_ hv2 (by omega) b7 b5 b6 (by omega)
      rw [hs2, b4, ← hFF]
      simp [b3]
  refine xLd (N := 6) (n := 24) (i := x) (F := fun zq => ev m_W_lettersAt 8 [some (eR 0), some (eI x), some (eI z), some (eI 0)] [eI (S 15 zq)] (wC S, c)) (k := k) rfl (wr_nat (by omega) (by omega)) (by omega) ?_
  refine xCallI (N := 3) (v := ((pc 30 m0 : Nat) : Int)) (M2 := m_W_lettersAt) (pc2 := 12) (ls2 := [some (eR 0), some (eI x), some (eI z), some (eI 0), some (eI (S 15 k))]) (st2 := []) (y := m_J_bitCount) (as := [some (eI (S 15 k))]) (w2 := (wC S, c)) rfl (c_bitCount g hm) (fun r12 hr12 => ?_)
  refine xSeg (N := 1) (r := ev m_W_lettersAt 17 [some (eR 0), some (eI x), some (eI z), some (eI 0), some (eI (S 15 k)), some (eI r12)] [] (wC S, c)) rfl ?_
  exact hl _ 0 m0 _ _ _ rfl g hr12 hm (fun i => by simp) rfl (by omega)
/-- the words of the mask whose letter the mask w0 hasn't -/
def usN (m0 w0 : Nat) (f : Nat → Nat) : Nat := orN (fun w => bif m0.testBit w && !w0.testBit (f w) then 2 ^ w else 0) 30
theorem usN_lt {m0 w0 : Nat} {f : Nat → Nat} : usN m0 w0 f < 1073741824 := orN_lt (q := 30) (fun i hi => by
  cases hb : (m0.testBit i && !w0.testBit (f i)) with
  | true => exact Nat.pow_lt_pow_right (by decide) hi
  | false => exact Nat.two_pow_pos 30)
/-- what 'unsupported' answers -/
def usOk (S : wS) (k p m0 : Nat) (f : Nat → Nat) (U : Nat) : Prop := (S 10 (k * 6 + p) = -1 ∧ U = 0) ∨ ∃ q w0 : Nat, S 10 (k * 6 + p) = (q : Int) ∧ q < 144 ∧ S 19 q = (w0 : Int) ∧ w0 < 1073741824 ∧ U = usN m0 w0 f
theorem usOk_lt {S : wS} {k p m0 : Nat} {f : Nat → Nat} {U : Nat} (h : usOk S k p m0 f U) : U < 1073741824 := by
  rcases h with ⟨_, h⟩ | ⟨_, _, _, _, _, _, h⟩
  · omega
  · rw [h]; exact usN_lt
theorem c_unsupported {S : wS} {c : Nat × Nat} {x z : Int} {k p m0 U : Nat} {f : Nat → Nat} (hx : x = (k : Int)) (hz : z = (p : Int)) (hk : k < 24) (hp : p < 6) (g : S 15 k = (m0 : Int)) (hm : m0 < 1073741824) (gl : ∀ w, m0.testBit w = true → S 13 (w * 6 + p) = (f w : Int) ∧ f w < 26) (hU : usOk S k p m0 f U) : ev m_W_unsupported 0 [some (eR 0), some (eI x), some (eI z)] [] (wC S, c) = some (.inl (some (eI (U : Int))), (wC S, c)) := by
  rcases hU with ⟨h10, rfl⟩ | ⟨q, w0, h10, hq, h19, hw0, rfl⟩
  · refine xLd (N := 9) (n := 144) (i := (x * 6) + z) (F := fun zq => ev m_W_unsupported 14 [some (eR 0), some (eI x), some (eI z)] [eI (S 10 zq)] (wC S, c)) (k := (k * 6) + p) rfl (wr_nat (by omega) (by omega)) (by omega) ?_
    refine xEqT (N := 4) (x := S 10 ((k * 6) + p)) (y := (-1)) (A := ev m_W_unsupported 20 [some (eR 0), some (eI x), some (eI z), some (eI (S 10 ((k * 6) + p)))] [] (wC S, c)) (B := ev m_W_unsupported 22 [some (eR 0), some (eI x), some (eI z), some (eI (S 10 ((k * 6) + p)))] [] (wC S, c)) rfl (wr_id (by omega) (by omega)) (show wr (-1) = (-1) by decide) h10 ?_
    refine xSeg (N := 2) (r := some (.inl (some (eI 0)), (wC S, c))) rfl ?_
    rfl
  unfold usN
  generalize hFF : (fun w => bif m0.testBit w && !w0.testBit (f w) then 2 ^ w else 0) = F
  have hF : ∀ i, m0.testBit i = false → F i = 0 := fun i h => by rw [← hFF]; simp [h]
  have hFl : ∀ i, i < 30 → F i < 2 ^ 30 := fun i hi => by
    rw [← hFF]
    dsimp only
    cases hb : (m0.testBit i && !w0.testBit (f i)) with
    | true => exact Nat.pow_lt_pow_right (by decide) hi
    | false => exact Nat.two_pow_pos 30
  have hl : ∀ d : Nat, ∀ (j r : Nat) (s v u : Int), s = ((orN F j : Nat) : Int) → v = (r : Int) → u = (d : Int) → r < 1073741824 → (∀ i, r.testBit i = (decide (j ≤ i) && m0.testBit i)) → pc 30 r = d → j ≤ 30 → ev m_W_unsupported 40 [some (eR 0), some (eI x), some (eI z), some (eI (S 10 (k * 6 + p))), some (eI s), some (eI v), some (eI u)] [] (wC S, c) = some (.inl (some (eI ((orN F 30 : Nat) : Int))), (wC S, c)) := by
    intro d
    induction d with
    | zero =>
      intro j r s v u hs hv hu hr hj hd hj30
      refine xLtF (N := 2) (x := 0) (y := u) (A := ev m_W_unsupported 45 [some (eR 0), some (eI x), some (eI z), some (eI (S 10 (k * 6 + p))), some (eI s), some (eI v), some (eI u)] [] (wC S, c)) (B := ev m_W_unsupported 107 [some (eR 0), some (eI x), some (eI z), some (eI (S 10 (k * 6 + p))), some (eI s), some (eI v), some (eI u)] [] (wC S, c)) rfl (show wr 0 = 0 by decide) (wr_id (by omega) (by omega)) (by omega) ?_
      refine xSeg (N := 2) (r := some (.inl (some (eI s)), (wC S, c))) rfl ?_
      rw [bits_end hm hr hj30 hj hF hd, hs]
    | succ d ih =>
      intro j r s v u hs hv hu hr hj hd hj30
      obtain ⟨t, ht1, ht2⟩ := low_get hr (by omega)
      obtain ⟨b1, b2, b3, b4, b5, b6, b7⟩ := bits_step hr hj hF hd ht1 ht2
      have hd30 := pc_le 30 r
      have hg := gl t b3
      refine xLtT (N := 2) (x := 0) (y := u) (A := ev m_W_unsupported 45 [some (eR 0), some (eI x), some (eI z), some (eI (S 10 (k * 6 + p))), some (eI s), some (eI v), some (eI u)] [] (wC S, c)) (B := ev m_W_unsupported 107 [some (eR 0), some (eI x), some (eI z), some (eI (S 10 (k * 6 + p))), some (eI s), some (eI v), some (eI u)] [] (wC S, c)) rfl (show wr 0 = 0 by decide) (wr_id (by omega) (by omega)) (by omega) ?_
      refine xCallI (N := 2) (v := (t : Int)) (M2 := m_W_unsupported) (pc2 := 47) (ls2 := [some (eR 0), some (eI x), some (eI z), some (eI (S 10 (k * 6 + p))), some (eI s), some (eI v), some (eI u)]) (st2 := []) (y := m_J_numberOfTrailingZeros) (as := [some (eI v)]) (w2 := (wC S, c)) rfl (c_ntz hv hr ht1 ht2) (fun r47 hr47 => ?_)
      refine xLd (N := 10) (n := 180) (i := (r47 * 6) + z) (F := fun zq => ev m_W_unsupported 67 [some (eR 0), some (eI x), some (eI z), some (eI (S 10 (k * 6 + p))), some (eI s), some (eI v), some (eI u), some (eI r47)] [eI (S 13 zq)] (wC S, c)) (k := (t * 6) + p) rfl (wr_nat (by omega) (by omega)) (by omega) ?_
      refine xLd (N := 5) (n := 144) (i := S 10 (k * 6 + p)) (F := fun zq => ev m_W_unsupported 75 [some (eR 0), some (eI x), some (eI z), some (eI (S 10 (k * 6 + p))), some (eI s), some (eI v), some (eI u), some (eI r47), some (eI (S 13 ((t * 6) + p)))] [eI (S 19 zq)] (wC S, c)) (k := q) rfl (wr_nat (by omega) (by omega)) (by omega) ?_
      refine xTop (N := 4) (pc2 := 80) (ls2 := [some (eR 0), some (eI x), some (eI z), some (eI (S 10 (k * 6 + p))), some (eI s), some (eI v), some (eI u), some (eI r47), some (eI (S 13 ((t * 6) + p)))]) (a := bAnd (bShr (S 19 q) (S 13 ((t * 6) + p))) 1) (b := bI (w0.testBit (f t))) (st2 := []) (w2 := (wC S, c)) rfl (b_tb h19 hw0 hg.1 (by omega)) (fun z1 hz1 => ?_)
      have hz2 := bI_1 hz1
      refine xEq (N := 1) (x := z1) (y := 0) (A := ev m_W_unsupported 83 [some (eR 0), some (eI x), some (eI z), some (eI (S 10 (k * 6 + p))), some (eI s), some (eI v), some (eI u), some (eI r47), some (eI (S 13 ((t * 6) + p)))] [] (wC S, c)) (B := ev m_W_unsupported 92 [some (eR 0), some (eI x), some (eI z), some (eI (S 10 (k * 6 + p))), some (eI s), some (eI v), some (eI u), some (eI r47), some (eI (S 13 ((t * 6) + p)))] [] (wC S, c)) rfl (wr_id (by omega) (by omega)) (show wr 0 = 0 by decide) (fun h80 => ?_) (fun h80 => ?_)
      · refine xTop (N := 5) (pc2 := 90) (ls2 := [some (eR 0), some (eI x), some (eI z), some (eI (S 10 (k * 6 + p))), some (eI s), some (eI v), some (eI u), some (eI r47), some (eI (S 13 ((t * 6) + p)))]) (a := bOr s (bShl 1 r47)) (b := ((orN F j ||| 2 ^ t : Nat) : Int)) (st2 := []) (w2 := (wC S, c)) rfl (i_or hs (orN_lt (q := 30) (fun i hi => hFl i (by omega))) hr47 b1) (fun s2 hs2 => ?_)
        refine xTop (N := 6) (pc2 := 99) (ls2 := [some (eR 0), some (eI x), some (eI z), some (eI (S 10 (k * 6 + p))), some (eI s2), some (eI v), some (eI u), some (eI r47), some (eI (S 13 ((t * 6) + p)))]) (a := bAnd v (v - 1)) (b := ((r &&& (r - 1) : Nat) : Int)) (st2 := []) (w2 := (wC S, c)) rfl (i_dec hv hr (by omega)) (fun v2 hv2 => ?_)
        refine xSeg (N := 3) (r := ev m_W_unsupported 40 [some (eR 0), some (eI x), some (eI z), some (eI (S 10 (k * 6 + p))), some (eI s2), some (eI v2), some (eI (u + (-1))), some (eI r47), some (eI (S 13 ((t * 6) + p)))] [] (wC S, c)) rfl ?_
        refine xTk 7 (by rfl) rfl ?_
        first | exact ih (t + 1) (r &&& (r - 1)) _ _ _ (by rw [hs2, b4, ← hFF]; simp [b3, hz2.2.2.mp (by omega)]) hv2 (by omega) b7 b5 b6 (by omega) | exact ih (t + 1) (r &&& (r - 1)) _ _ _ (by rw [hs, b4, ← hFF]; simp [b3, hz2.2.1.mp (by omega)]) hv2 (by omega) b7 b5 b6 (by omega)
      · refine xTop (N := 5) (pc2 := 99) (ls2 := [some (eR 0), some (eI x), some (eI z), some (eI (S 10 (k * 6 + p))), some (eI s), some (eI v), some (eI u), some (eI r47), some (eI (S 13 ((t * 6) + p)))]) (a := bAnd v (v - 1)) (b := ((r &&& (r - 1) : Nat) : Int)) (st2 := []) (w2 := (wC S, c)) rfl (i_dec hv hr (by omega)) (fun v2 hv2 => ?_)
        refine xSeg (N := 3) (r := ev m_W_unsupported 40 [some (eR 0), some (eI x), some (eI z), some (eI (S 10 (k * 6 + p))), some (eI s), some (eI v2), some (eI (u + (-1))), some (eI r47), some (eI (S 13 ((t * 6) + p)))] [] (wC S, c)) rfl ?_
        refine xTk 7 (by rfl) rfl ?_
        first | exact ih (t + 1) (r &&& (r - 1)) _ _ _ (by rw [hs2, b4, ← hFF]; simp [b3, hz2.2.2.mp (by omega)]) hv2 (by omega) b7 b5 b6 (by omega) | exact ih (t + 1) (r &&& (r - 1)) _ _ _ (by rw [hs, b4, ← hFF]; simp [b3, hz2.2.1.mp (by omega)]) hv2 (by omega) b7 b5 b6 (by omega)
  refine xLd (N := 9) (n := 144) (i := (x * 6) + z) (F := fun zq => ev m_W_unsupported 14 [some (eR 0), some (eI x), some (eI z)] [eI (S 10 zq)] (wC S, c)) (k := (k * 6) + p) rfl (wr_nat (by omega) (by omega)) (by omega) ?_
  refine xEqF (N := 4) (x := S 10 ((k * 6) + p)) (y := (-1)) (A := ev m_W_unsupported 20 [some (eR 0), some (eI x), some (eI z), some (eI (S 10 ((k * 6) + p)))] [] (wC S, c)) (B := ev m_W_unsupported 22 [some (eR 0), some (eI x), some (eI z), some (eI (S 10 ((k * 6) + p)))] [] (wC S, c)) rfl (wr_id (by omega) (by omega)) (show wr (-1) = (-1) by decide) (by omega) ?_
  refine xLd (N := 6) (n := 24) (i := x) (F := fun zq => ev m_W_unsupported 31 [some (eR 0), some (eI x), some (eI z), some (eI (S 10 ((k * 6) + p))), some (eI 0)] [eI (S 15 zq)] (wC S, c)) (k := k) rfl (wr_nat (by omega) (by omega)) (by omega) ?_
  refine xCallI (N := 3) (v := ((pc 30 m0 : Nat) : Int)) (M2 := m_W_unsupported) (pc2 := 35) (ls2 := [some (eR 0), some (eI x), some (eI z), some (eI (S 10 ((k * 6) + p))), some (eI 0), some (eI (S 15 k))]) (st2 := []) (y := m_J_bitCount) (as := [some (eI (S 15 k))]) (w2 := (wC S, c)) rfl (c_bitCount g hm) (fun r35 hr35 => ?_)
  refine xSeg (N := 1) (r := ev m_W_unsupported 40 [some (eR 0), some (eI x), some (eI z), some (eI (S 10 ((k * 6) + p))), some (eI 0), some (eI (S 15 k)), some (eI r35)] [] (wC S, c)) rfl ?_
  exact hl _ 0 m0 _ _ _ rfl g hr35 hm (fun i => by simp) rfl (by omega)
theorem c_isNarrowed {S : wS} {c : Nat × Nat} {md : Nat} (g3 : S 0 3 = (md : Int)) (hmd : md < 4) : ev m_W_isNarrowed 0 [some (eR 0)] [] (wC S, c) = some (.inl (some (eI (bI (decide (md ≤ 1))))), (wC S, c)) := by
  refine xEq (N := 3) (x := S 0 3) (y := 0) (A := ev m_W_isNarrowed 15 [some (eR 0)] [] (wC S, c)) (B := ev m_W_isNarrowed 7 [some (eR 0)] [] (wC S, c)) rfl (wr_id (by omega) (by omega)) (show wr 0 = 0 by decide) (fun h4 => ?_) (fun h4 => ?_)
  · refine xRb (N := 3) (v := 1) (w2 := (wC S, c)) rfl (by decide) ?_
    first | exact lf (bT (decide_eq_true (by omega))) | exact lf (bF (decide_eq_false (by omega)))
  · refine xEq (N := 4) (x := S 0 3) (y := 1) (A := ev m_W_isNarrowed 15 [some (eR 0)] [] (wC S, c)) (B := ev m_W_isNarrowed 19 [some (eR 0)] [] (wC S, c)) rfl (wr_id (by omega) (by omega)) (show wr 1 = 1 by decide) (fun h12 => ?_) (fun h12 => ?_)
    · refine xRb (N := 3) (v := 1) (w2 := (wC S, c)) rfl (by decide) ?_
      first | exact lf (bT (decide_eq_true (by omega))) | exact lf (bF (decide_eq_false (by omega)))
    · refine xRb (N := 2) (v := 0) (w2 := (wC S, c)) rfl (by decide) ?_
      first | exact lf (bT (decide_eq_true (by omega))) | exact lf (bF (decide_eq_false (by omega)))
theorem c_canStep {S : wS} {c : Nat × Nat} {n md : Nat} (gn : S 1 4 = (n : Int)) (hn : n ≤ 24) (g3 : S 0 3 = (md : Int)) (hmd : md < 4) : ev m_W_canStep 0 [some (eR 0)] [] (wC S, c) = some (.inl (some (eI (bI (decide (0 < n ∧ (md = 0 ∨ md = 2)))))), (wC S, c)) := by
  refine xLt (N := 4) (x := 0) (y := S 1 4) (A := ev m_W_canStep 10 [some (eR 0)] [] (wC S, c)) (B := ev m_W_canStep 29 [some (eR 0)] [] (wC S, c)) rfl (show wr 0 = 0 by decide) (wr_id (by omega) (by omega)) (fun h7 => ?_) (fun h7 => ?_)
  · refine xEq (N := 3) (x := S 0 3) (y := 0) (A := ev m_W_canStep 25 [some (eR 0)] [] (wC S, c)) (B := ev m_W_canStep 17 [some (eR 0)] [] (wC S, c)) rfl (wr_id (by omega) (by omega)) (show wr 0 = 0 by decide) (fun h14 => ?_) (fun h14 => ?_)
    · refine xRb (N := 3) (v := 1) (w2 := (wC S, c)) rfl (by decide) ?_
      first | exact lf (bT (decide_eq_true (by omega))) | exact lf (bF (decide_eq_false (by omega)))
    · refine xEq (N := 4) (x := S 0 3) (y := 2) (A := ev m_W_canStep 25 [some (eR 0)] [] (wC S, c)) (B := ev m_W_canStep 29 [some (eR 0)] [] (wC S, c)) rfl (wr_id (by omega) (by omega)) (show wr 2 = 2 by decide) (fun h22 => ?_) (fun h22 => ?_)
      · refine xRb (N := 3) (v := 1) (w2 := (wC S, c)) rfl (by decide) ?_
        first | exact lf (bT (decide_eq_true (by omega))) | exact lf (bF (decide_eq_false (by omega)))
      · refine xRb (N := 2) (v := 0) (w2 := (wC S, c)) rfl (by decide) ?_
        first | exact lf (bT (decide_eq_true (by omega))) | exact lf (bF (decide_eq_false (by omega)))
  · refine xRb (N := 2) (v := 0) (w2 := (wC S, c)) rfl (by decide) ?_
    first | exact lf (bT (decide_eq_true (by omega))) | exact lf (bF (decide_eq_false (by omega)))
/-- the state that the candidates tell -/
def mdN (n : Nat) (o : Nat → Nat) : Nat := if fnd (fun k => decide (o k = 0)) n 0 ≠ -1 then 2 else if 0 < n ∧ (bsA (fun k => pc 30 (o k)) n).1 = -1 then 1 else 0
theorem bsA_1b {f : Nat → Nat} : ∀ {k : Nat}, -1 ≤ (bsA f k).1 ∧ (bsA f k).1 < (k : Int)
  | 0 => by simp [bsA]
  | k + 1 => by
    have := bsA_1b (f := f) (k := k)
    simp only [bsA]
    split
    · dsimp only; omega
    · omega
theorem c_moodNow {S : wS} {c : Nat × Nat} {n : Nat} {o : Nat → Nat} (gn : S 1 4 = (n : Int)) (hn : n ≤ 24) (go : ∀ k, k < n → S 15 k = (o k : Int) ∧ o k < 1073741824) : ev m_W_moodNow 0 [some (eR 0)] [] (wC S, c) = some (.inl (some (eI ((mdN n o : Nat) : Int))), (wC S, c)) := by
  have hf := fnd_b (p := fun k => decide (o k = 0)) (d := n) (k := 0)
  have hb := bsA_1b (f := fun k => pc 30 (o k)) (k := n)
  refine xCallWI (N := 2) (v := fnd (fun k => decide (o k = 0)) n 0) (M2 := m_W_moodNow) (pc2 := 1) (ls2 := [some (eR 0)]) (st2 := []) (y := m_W_findEmptySlot) (as := [some (eR 0)]) (w2 := (wC S, c)) rfl (c_findEmptySlot gn hn go) (fun r1 hr1 => ?_)
  refine xEq (N := 2) (x := r1) (y := (-1)) (A := ev m_W_moodNow 10 [some (eR 0)] [] (wC S, c)) (B := ev m_W_moodNow 8 [some (eR 0)] [] (wC S, c)) rfl (wr_id (by omega) (by omega)) (show wr (-1) = (-1) by decide) (fun h5 => ?_) (fun h5 => ?_)
  · refine xLt (N := 4) (x := 0) (y := S 1 4) (A := ev m_W_moodNow 20 [some (eR 0)] [] (wC S, c)) (B := ev m_W_moodNow 32 [some (eR 0)] [] (wC S, c)) rfl (show wr 0 = 0 by decide) (wr_id (by omega) (by omega)) (fun h17 => ?_) (fun h17 => ?_)
    · refine xCallWI (N := 2) (v := (bsA (fun k => pc 30 (o k)) n).1) (M2 := m_W_moodNow) (pc2 := 21) (ls2 := [some (eR 0)]) (st2 := []) (y := m_W_findBestSlot) (as := [some (eR 0)]) (w2 := (wC S, c)) rfl (c_findBestSlot gn hn go) (fun r21 hr21 => ?_)
      refine xEq (N := 2) (x := r21) (y := (-1)) (A := ev m_W_moodNow 28 [some (eR 0)] [] (wC S, c)) (B := ev m_W_moodNow 32 [some (eR 0)] [] (wC S, c)) rfl (wr_id (by omega) (by omega)) (show wr (-1) = (-1) by decide) (fun h25 => ?_) (fun h25 => ?_)
      · refine xSeg (N := 3) (r := some (.inl (some (eI 1)), (wC S, c))) rfl ?_
        first | exact lf (by unfold mdN; rw [if_neg (by omega), if_pos (by omega)]; rfl) | exact lf (by unfold mdN; rw [if_neg (by omega), if_neg (by omega)]; rfl)
      · refine xSeg (N := 2) (r := some (.inl (some (eI 0)), (wC S, c))) rfl ?_
        first | exact lf (by unfold mdN; rw [if_neg (by omega), if_pos (by omega)]; rfl) | exact lf (by unfold mdN; rw [if_neg (by omega), if_neg (by omega)]; rfl)
    · refine xSeg (N := 2) (r := some (.inl (some (eI 0)), (wC S, c))) rfl ?_
      first | exact lf (by unfold mdN; rw [if_neg (by omega), if_pos (by omega)]; rfl) | exact lf (by unfold mdN; rw [if_neg (by omega), if_neg (by omega)]; rfl)
  · refine xSeg (N := 2) (r := some (.inl (some (eI 2)), (wC S, c))) rfl ?_
    exact lf (by unfold mdN; rw [if_pos (by omega)]; rfl)
theorem c_isElsewhere {S : wS} {c : Nat × Nat} {x : Int} {k n : Nat} {o : Nat → Nat} (hx : x = (k : Int)) (hk : k < n) (gn : S 1 4 = (n : Int)) (hn : n ≤ 24) (go : ∀ k, k < n → S 15 k = (o k : Int) ∧ o k < 1073741824) : ev m_W_isElsewhere 0 [some (eR 0), some (eI x)] [] (wC S, c) = some (.inl (some (eI (bI (anyN (fun j => decide (j ≠ k ∧ (o j &&& o k) ≠ 0)) n)))), (wC S, c)) := by
  have hok := go k hk
  have hl : ∀ p : Nat, p ≤ n → ∀ y : Int, y = (p : Int) → (∀ j, j < p → ¬ (j ≠ k ∧ (o j &&& o k) ≠ 0)) → ev m_W_isElsewhere 2 [some (eR 0), some (eI x), some (eI y)] [] (wC S, c) = some (.inl (some (eI (bI (anyN (fun j => decide (j ≠ k ∧ (o j &&& o k) ≠ 0)) n)))), (wC S, c)) := by
    refine loop_up ?_ ?_
    · intro y hy ha
      refine xLtF (N := 5) (x := y) (y := S 1 4) (A := ev m_W_isElsewhere 13 [some (eR 0), some (eI x), some (eI y)] [] (wC S, c)) (B := ev m_W_isElsewhere 42 [some (eR 0), some (eI x), some (eI y)] [] (wC S, c)) rfl (wr_id (by omega) (by omega)) (wr_id (by omega) (by omega)) (by omega) ?_
      refine xRb (N := 2) (v := 0) (w2 := (wC S, c)) rfl (by decide) ?_
      exact lf (bF (anyN_F (fun j hj => decide_eq_false (ha j hj))))
    · intro p hp ih y hy ha
      have hb := go p hp
      have ha2 : (o p &&& o k) < 1073741824 := Nat.lt_of_le_of_lt Nat.and_le_left hb.2
      have ih2 : ¬ (p ≠ k ∧ (o p &&& o k) ≠ 0) → ∀ j, j < p + 1 → ¬ (j ≠ k ∧ (o j &&& o k) ≠ 0) := fun h j hj => by
        by_cases hjp : j = p
        · subst hjp; exact h
        · exact ha j (by omega)
      refine xLtT (N := 5) (x := y) (y := S 1 4) (A := ev m_W_isElsewhere 13 [some (eR 0), some (eI x), some (eI y)] [] (wC S, c)) (B := ev m_W_isElsewhere 42 [some (eR 0), some (eI x), some (eI y)] [] (wC S, c)) rfl (wr_id (by omega) (by omega)) (wr_id (by omega) (by omega)) (by omega) ?_
      refine xEq (N := 3) (x := y) (y := x) (A := ev m_W_isElsewhere 36 [some (eR 0), some (eI x), some (eI y)] [] (wC S, c)) (B := ev m_W_isElsewhere 18 [some (eR 0), some (eI x), some (eI y)] [] (wC S, c)) rfl (wr_id (by omega) (by omega)) (wr_id (by omega) (by omega)) (fun h15 => ?_) (fun h15 => ?_)
      · refine xSeg (N := 2) (r := ev m_W_isElsewhere 2 [some (eR 0), some (eI x), some (eI (y + 1))] [] (wC S, c)) rfl ?_
        exact ih _ (by omega) (ih2 (by omega))
      · refine xLd (N := 4) (n := 24) (i := y) (F := fun zq => ev m_W_isElsewhere 24 [some (eR 0), some (eI x), some (eI y)] [eI (S 15 zq)] (wC S, c)) (k := p) rfl (wr_nat (by omega) (by omega)) (by omega) ?_
        refine xLd (N := 4) (n := 24) (i := x) (F := fun zq => ev m_W_isElsewhere 30 [some (eR 0), some (eI x), some (eI y)] [eI (S 15 zq), eI (S 15 p)] (wC S, c)) (k := k) rfl (wr_nat (by omega) (by omega)) (by omega) ?_
        refine xTop (N := 1) (pc2 := 31) (ls2 := [some (eR 0), some (eI x), some (eI y)]) (a := bAnd (S 15 p) (S 15 k)) (b := ((o p &&& o k : Nat) : Int)) (st2 := []) (w2 := (wC S, c)) rfl (by rw [hb.1, hok.1, bAnd_n (by omega)]) (fun z1 hz1 => ?_)
        refine xEq (N := 1) (x := z1) (y := 0) (A := ev m_W_isElsewhere 36 [some (eR 0), some (eI x), some (eI y)] [] (wC S, c)) (B := ev m_W_isElsewhere 34 [some (eR 0), some (eI x), some (eI y)] [] (wC S, c)) rfl (wr_id (by omega) (by omega)) (show wr 0 = 0 by decide) (fun h31 => ?_) (fun h31 => ?_)
        · refine xSeg (N := 2) (r := ev m_W_isElsewhere 2 [some (eR 0), some (eI x), some (eI (y + 1))] [] (wC S, c)) rfl ?_
          exact ih _ (by omega) (ih2 (by omega))
        · refine xRb (N := 2) (v := 1) (w2 := (wC S, c)) rfl (by decide) ?_
          exact lf (bT (anyN_iff.mpr ⟨p, hp, decide_eq_true (by omega)⟩))
  refine xSeg (N := 2) (r := ev m_W_isElsewhere 2 [some (eR 0), some (eI x), some (eI 0)] [] (wC S, c)) rfl ?_
  exact hl 0 (Nat.zero_le _) _ rfl (fun k hk => absurd hk (by omega))
theorem c_countDoubles {S : wS} {c : Nat × Nat} {n : Nat} {o : Nat → Nat} (gn : S 1 4 = (n : Int)) (hn : n ≤ 24) (go : ∀ k, k < n → S 15 k = (o k : Int) ∧ o k < 1073741824) : ev m_W_countDoubles 0 [some (eR 0)] [] (wC S, c) = some (.inl (some (eI ((fb_ct (fun k => decide (pc 30 (o k) = 1) && anyN (fun j => decide (j ≠ k ∧ (o j &&& o k) ≠ 0)) n) n : Nat) : Int))), (wC S, c)) := by
  have hl : ∀ p : Nat, p ≤ n → ∀ s y : Int, s = ((fb_ct (fun k => decide (pc 30 (o k) = 1) && anyN (fun j => decide (j ≠ k ∧ (o j &&& o k) ≠ 0)) n) p : Nat) : Int) → y = ((p : Nat) : Int) → ev m_W_countDoubles 4 [some (eR 0), some (eI s), some (eI y)] [] (wC S, c) = some (.inl (some (eI ((fb_ct (fun k => decide (pc 30 (o k) = 1) && anyN (fun j => decide (j ≠ k ∧ (o j &&& o k) ≠ 0)) n) n : Nat) : Int))), (wC S, c)) := by
    refine loop_up ?_ ?_
    · intro s y hs hy
      refine xLtF (N := 5) (x := y) (y := S 1 4) (A := ev m_W_countDoubles 15 [some (eR 0), some (eI s), some (eI y)] [] (wC S, c)) (B := ev m_W_countDoubles 40 [some (eR 0), some (eI s), some (eI y)] [] (wC S, c)) rfl (wr_id (by omega) (by omega)) (wr_id (by omega) (by omega)) (by omega) ?_
      refine xSeg (N := 2) (r := some (.inl (some (eI s)), (wC S, c))) rfl ?_
      rw [hs]
    · intro p hp ih s y hs hy
      have hb := go p hp
      refine xLtT (N := 5) (x := y) (y := S 1 4) (A := ev m_W_countDoubles 15 [some (eR 0), some (eI s), some (eI y)] [] (wC S, c)) (B := ev m_W_countDoubles 40 [some (eR 0), some (eI s), some (eI y)] [] (wC S, c)) rfl (wr_id (by omega) (by omega)) (wr_id (by omega) (by omega)) (by omega) ?_
      refine xCallWI (N := 3) (v := bI (decide (pc 30 (o p) = 1))) (M2 := m_W_countDoubles) (pc2 := 17) (ls2 := [some (eR 0), some (eI s), some (eI y)]) (st2 := []) (y := m_W_hasSingle) (as := [some (eR 0), some (eI y)]) (w2 := (wC S, c)) rfl (c_hasSingle (m := o p) (by omega) (by omega) (by omega) (by omega)) (fun r17 hr17 => ?_)
      have hq := bI_1 hr17
      refine xEq (N := 1) (x := r17) (y := 0) (A := ev m_W_countDoubles 34 [some (eR 0), some (eI s), some (eI y)] [] (wC S, c)) (B := ev m_W_countDoubles 23 [some (eR 0), some (eI s), some (eI y)] [] (wC S, c)) rfl (wr_id (by omega) (by omega)) (show wr 0 = 0 by decide) (fun h20 => ?_) (fun h20 => ?_)
      · refine xSeg (N := 2) (r := ev m_W_countDoubles 4 [some (eR 0), some (eI s), some (eI (y + 1))] [] (wC S, c)) rfl ?_
        first | exact ih _ _ (by rw [ct_T (by rw [hq.2.1.mp (by omega), hq2.2.1.mp (by omega)]; rfl)]; omega) (by omega) | exact ih _ _ (by rw [ct_F (by rw [hq.2.2.mp (by omega)]; rfl)]; exact hs) (by omega) | exact ih _ _ (by rw [ct_F (by rw [hq2.2.2.mp (by omega), Bool.and_false])]; exact hs) (by omega)
      · refine xCallWI (N := 3) (v := bI (anyN (fun j => decide (j ≠ p ∧ (o j &&& o p) ≠ 0)) n)) (M2 := m_W_countDoubles) (pc2 := 25) (ls2 := [some (eR 0), some (eI s), some (eI y)]) (st2 := []) (y := m_W_isElsewhere) (as := [some (eR 0), some (eI y)]) (w2 := (wC S, c)) rfl (c_isElsewhere hy hp gn hn go) (fun r25 hr25 => ?_)
        have hq2 := bI_1 hr25
        refine xEq (N := 1) (x := r25) (y := 0) (A := ev m_W_countDoubles 34 [some (eR 0), some (eI s), some (eI y)] [] (wC S, c)) (B := ev m_W_countDoubles 31 [some (eR 0), some (eI s), some (eI y)] [] (wC S, c)) rfl (wr_id (by omega) (by omega)) (show wr 0 = 0 by decide) (fun h28 => ?_) (fun h28 => ?_)
        · refine xSeg (N := 2) (r := ev m_W_countDoubles 4 [some (eR 0), some (eI s), some (eI (y + 1))] [] (wC S, c)) rfl ?_
          first | exact ih _ _ (by rw [ct_T (by rw [hq.2.1.mp (by omega), hq2.2.1.mp (by omega)]; rfl)]; omega) (by omega) | exact ih _ _ (by rw [ct_F (by rw [hq.2.2.mp (by omega)]; rfl)]; exact hs) (by omega) | exact ih _ _ (by rw [ct_F (by rw [hq2.2.2.mp (by omega), Bool.and_false])]; exact hs) (by omega)
        · refine xSeg (N := 3) (r := ev m_W_countDoubles 4 [some (eR 0), some (eI (s + 1)), some (eI (y + 1))] [] (wC S, c)) rfl ?_
          first | exact ih _ _ (by rw [ct_T (by rw [hq.2.1.mp (by omega), hq2.2.1.mp (by omega)]; rfl)]; omega) (by omega) | exact ih _ _ (by rw [ct_F (by rw [hq.2.2.mp (by omega)]; rfl)]; exact hs) (by omega) | exact ih _ _ (by rw [ct_F (by rw [hq2.2.2.mp (by omega), Bool.and_false])]; exact hs) (by omega)
  refine xSeg (N := 4) (r := ev m_W_countDoubles 4 [some (eR 0), some (eI 0), some (eI 0)] [] (wC S, c)) rfl ?_
  exact hl 0 (Nat.zero_le _) _ _ rfl rfl
