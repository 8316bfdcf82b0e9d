/-! The class's window narrows. -/
def mkM (p : Nat → Bool) (n : Nat) : Nat := orN (fun w => bif p w then 2 ^ w else 0) n
theorem mkM_tb {p : Nat → Bool} {w : Nat} : ∀ {n : Nat}, (mkM p n).testBit w = (decide (w < n) && p w)
  | 0 => by simp [mkM, orN]
  | n + 1 => by
    have h : mkM p (n + 1) = (mkM p n ||| (bif p n then 2 ^ n else 0)) := rfl
    rw [h, Nat.testBit_or, mkM_tb]
    by_cases hw : w = n
    · subst hw
      cases hp : p w with
      | true => simp [Nat.testBit_two_pow]
      | false => simp
    · cases hp : p n with
      | true =>
        rw [cond_true, Nat.testBit_two_pow]
        by_cases h2 : w < n
        · simp [h2, show w < n + 1 by omega, show n ≠ w by omega]
        · simp [h2, show ¬ w < n + 1 by omega, show n ≠ w by omega]
      | false =>
        rw [cond_false, Nat.zero_testBit, Bool.or_false]
        by_cases h2 : w < n
        · simp [h2, show w < n + 1 by omega]
        · simp [h2, show ¬ w < n + 1 by omega]
theorem mkM_lt {p : Nat → Bool} {n : Nat} : mkM p n < 2 ^ n := orN_lt (fun i hi => by
  cases hb : p i with
  | true => exact Nat.pow_lt_pow_right (by decide) hi
  | false => exact Nat.two_pow_pos n)
theorem mkM_30 {p : Nat → Bool} : mkM p 30 < 1073741824 := mkM_lt
theorem tb_30 {m i : Nat} (hm : m < 1073741824) (h : m.testBit i = true) : i < 30 := by
  rcases Nat.lt_or_ge i 30 with h2 | h2
  · exact h2
  · have := Nat.testBit_lt_two_pow (x := m) (i := i) (Nat.lt_of_lt_of_le hm (show 1073741824 ≤ 2 ^ i from Nat.pow_le_pow_right (n := 2) (i := 30) (by decide) h2))
    rw [h] at this; cases this
/-- the letter of the word w at the place p of the slot k isn't among those of the slot that crosses there -/
def lk (O Q f : Nat → Nat → Nat) (o : Nat → Nat) (k p w : Nat) : Bool := decide (O k p ≠ 0) && !(lmN (o (O k p - 1)) (fun v => f v (Q k p))).testBit (f w p)
def unS (O Q f : Nat → Nat → Nat) (o : Nat → Nat) (k p : Nat) : Nat := if O k p = 0 then 0 else usN (o k) (lmN (o (O k p - 1)) (fun v => f v (Q k p))) (fun w => f w p)
def crP (O Q f : Nat → Nat → Nat) (o : Nat → Nat) (k p : Nat) : Nat := mkM (fun w => (o k).testBit w && allN (fun q => !lk O Q f o k q w) p) 30
def crR (sz : Nat → Nat) (O Q f : Nat → Nat → Nat) (o : Nat → Nat) (k : Nat) : Nat := crP O Q f o k (sz k)
def sg1 (o : Nat → Nat) (k : Nat) : Bool := decide (pc 30 (o k) = 1)
def sgR (n : Nat) (o : Nat → Nat) (k : Nat) : Nat := mkM (fun w => (o k).testBit w && !anyN (fun j => decide (j ≠ k) && (sg1 o j && (o j).testBit w)) n) 30
theorem eqb {a b : Nat} (ha : a < 1073741824) (hb : b < 1073741824) (h : ∀ w, w < 30 → a.testBit w = b.testBit w) : a = b := by
  apply Nat.eq_of_testBit_eq
  intro w
  by_cases hw : w < 30
  · exact h w hw
  · have h2 : (1073741824 : Nat) ≤ 2 ^ w := Nat.pow_le_pow_right (n := 2) (i := 30) (by decide) (by omega)
    rw [Nat.testBit_lt_two_pow (Nat.lt_of_lt_of_le ha h2), Nat.testBit_lt_two_pow (Nat.lt_of_lt_of_le hb h2)]
theorem crP_0 {O Q f : Nat → Nat → Nat} {o : Nat → Nat} {k : Nat} (h : o k < 1073741824) : crP O Q f o k 0 = o k := eqb mkM_30 h (fun w hw => by
  unfold crP
  rw [mkM_tb]
  simp [hw, allN])
theorem crP_step {O Q f : Nat → Nat → Nat} {o : Nat → Nat} {k p : Nat} : nDiff (crP O Q f o k p) (unS O Q f o k p) = crP O Q f o k (p + 1) := by
  have h0 : crP O Q f o k p < 1073741824 := mkM_30
  refine eqb (Nat.lt_of_le_of_lt Nat.and_le_left h0) mkM_30 (fun w hw => ?_)
  rw [nDiff_tb _ _ _ (by omega)]
  have h1 : ∀ q, (crP O Q f o k q).testBit w = ((o k).testBit w && allN (fun q => !lk O Q f o k q w) q) := fun q => by
    unfold crP
    rw [mkM_tb, decide_eq_true hw, Bool.true_and]
  rw [h1, h1]
  show ((o k).testBit w && allN (fun q => !lk O Q f o k q w) p && !(unS O Q f o k p).testBit w) = ((o k).testBit w && (allN (fun q => !lk O Q f o k q w) p && !lk O Q f o k p w))
  unfold unS lk
  by_cases hO : O k p = 0
  · rw [if_pos hO]
    simp [hO]
  · rw [if_neg hO]
    have h2 : (usN (o k) (lmN (o (O k p - 1)) (fun v => f v (Q k p))) (fun w => f w p)).testBit w = ((o k).testBit w && !(lmN (o (O k p - 1)) (fun v => f v (Q k p))).testBit (f w p)) := by
      show (mkM (fun w => (o k).testBit w && !(lmN (o (O k p - 1)) (fun v => f v (Q k p))).testBit (f w p)) 30).testBit w = _
      rw [mkM_tb, decide_eq_true hw, Bool.true_and]
    rw [h2]
    simp only [hO, ne_eq, not_false_eq_true, decide_true, Bool.true_and, Bool.not_not]
    cases (o k).testBit w <;> cases allN (fun q => !(decide (¬O k q = 0) && !(lmN (o (O k q - 1)) (fun v => f v (Q k q))).testBit (f w q))) p <;> cases (lmN (o (O k p - 1)) (fun v => f v (Q k p))).testBit (f w p) <;> rfl
/-- the cells of the candidates when those before k are done -/
def cF (r : Nat → Nat) (old : Nat → Int) (k : Nat) : Nat → Int := fun i => if i < k then (r i : Int) else old i
theorem cF_0 {r : Nat → Nat} {old : Nat → Int} : cF r old 0 = old := by funext i; unfold cF; rw [if_neg (by omega)]
theorem cF_step {r : Nat → Nat} {old : Nat → Int} {k : Nat} : eUp (cF r old k) k (r k : Int) = cF r old (k + 1) := by
  funext i
  unfold eUp cF
  by_cases hi : i = k
  · rw [if_pos hi, if_pos (by omega), hi]
  · rw [if_neg hi]
    by_cases h : i < k
    · rw [if_pos h, if_pos (by omega)]
    · rw [if_neg h, if_neg (by omega)]
theorem cF_ge {r : Nat → Nat} {old : Nat → Int} {k i : Nat} (h : k ≤ i) : cF r old k i = old i := by unfold cF; rw [if_neg (by omega)]
theorem cF_lt {r : Nat → Nat} {old : Nat → Int} {k i : Nat} (h : i < k) : cF r old k i = (r i : Int) := by unfold cF; rw [if_pos h]
/-- what narrowing stands on: slots, crossings, letters -/
def nB (S : wS) (n m : Nat) (sz wl : Nat → Nat) (O Q f : Nat → Nat → Nat) : Prop := S 1 4 = (n : Int) ∧ n ≤ 24 ∧ (∀ k, k < n → S 5 k = (sz k : Int) ∧ sz k ≤ 6) ∧ (∀ k p, k < n → p < sz k → (O k p = 0 ∧ S 10 (k * 6 + p) = -1) ∨ (O k p ≠ 0 ∧ O k p ≤ n ∧ Q k p < sz (O k p - 1) ∧ S 10 (k * 6 + p) = (((O k p - 1) * 6 + Q k p : Nat) : Int))) ∧ (∀ w p, w < m → p < wl w → S 13 (w * 6 + p) = (f w p : Int) ∧ f w p < 26)
def mB (n m : Nat) (sz wl : Nat → Nat) (o : Nat → Nat) : Prop := ∀ k, k < n → o k < 1073741824 ∧ ∀ w, (o k).testBit w = true → w < m ∧ wl w = sz k
theorem mB_gl {S : wS} {n m : Nat} {sz wl o : Nat → Nat} {O Q f : Nat → Nat → Nat} (hN : nB S n m sz wl O Q f) (hm : mB n m sz wl o) : ∀ k, k < n → ∀ w, (o k).testBit w = true → ∀ p, p < sz k → S 13 (w * 6 + p) = (f w p : Int) ∧ f w p < 26 := fun k hk w hw p hp => by
  obtain ⟨h1, h2⟩ := (hm k hk).2 w hw
  exact hN.2.2.2.2 w p h1 (by omega)
theorem mB_sub {n m : Nat} {sz wl o o2 : Nat → Nat} (hm : mB n m sz wl o) (h : ∀ k, k < n → o2 k < 1073741824 ∧ ∀ w, (o2 k).testBit w = true → (o k).testBit w = true) : mB n m sz wl o2 := fun k hk => ⟨(h k hk).1, fun w hw => (hm k hk).2 w ((h k hk).2 w hw)⟩
theorem crR_sub {sz : Nat → Nat} {O Q f : Nat → Nat → Nat} {o : Nat → Nat} {k : Nat} : crR sz O Q f o k < 1073741824 ∧ ∀ w, (crR sz O Q f o k).testBit w = true → (o k).testBit w = true := ⟨mkM_30, fun w hw => by
  unfold crR crP at hw
  rw [mkM_tb] at hw
  simp only [Bool.and_eq_true] at hw
  exact hw.2.1⟩
theorem sgR_sub {n : Nat} {o : Nat → Nat} {k : Nat} : sgR n o k < 1073741824 ∧ ∀ w, (sgR n o k).testBit w = true → (o k).testBit w = true := ⟨mkM_30, fun w hw => by
  unfold sgR at hw
  rw [mkM_tb] at hw
  simp only [Bool.and_eq_true] at hw
  exact hw.2.1⟩
theorem lmN_ok {S : wS} {n m : Nat} {sz wl o : Nat → Nat} {O Q f : Nat → Nat → Nat} (hN : nB S n m sz wl O Q f) (hm : mB n m sz wl o) {k p : Nat} (hk : k < n) (hp : p < sz k) : lmN (o k) (fun w => f w p) < 67108864 := lmN_lt (fun w hw => (mB_gl hN hm k hk w hw p hp).2)
theorem us_of {S : wS} {n m : Nat} {sz wl o : Nat → Nat} {O Q f : Nat → Nat → Nat} (hN : nB S n m sz wl O Q f) (hm : mB n m sz wl o) (h19 : ∀ k p, k < n → p < sz k → S 19 (k * 6 + p) = ((lmN (o k) (fun w => f w p) : Nat) : Int)) {k p : Nat} (hk : k < n) (hp : p < sz k) : usOk S k p (o k) (fun w => f w p) (unS O Q f o k p) := by
  have h5 := hN.2.2.1
  have hn := hN.2.1
  rcases hN.2.2.2.1 k p hk hp with ⟨h1, h2⟩ | ⟨h1, h2, h3, h4⟩
  · exact Or.inl ⟨h2, by unfold unS; rw [if_pos h1]⟩
  · have h6 := h5 (O k p - 1) (by omega)
    have h7 := lmN_ok hN hm (k := O k p - 1) (p := Q k p) (by omega) h3
    exact Or.inr ⟨_, _, h4, by omega, h19 (O k p - 1) (Q k p) (by omega) h3, by omega, by unfold unS; rw [if_neg h1]⟩
set_option maxRecDepth 100000
theorem c_cross {S : wS} {c : Nat × Nat} {n m : Nat} {sz wl o : Nat → Nat} {O Q f : Nat → Nat → Nat} (hN : nB S n m sz wl O Q f) (ho : ∀ k, k < n → S 15 k = (o k : Int)) (hm : mB n m sz wl o) (h19 : ∀ k p, k < n → p < sz k → S 19 (k * 6 + p) = ((lmN (o k) (fun w => f w p) : Nat) : Int)) : ev m_W_narrowByCrossings 0 [some (eR 0)] [] (wC S, c) = some (.inl (some (eI (bI (anyN (fun k => decide (crR sz O Q f o k ≠ o k)) n)))), (wC (uS S 15 (cF (crR sz O Q f o) (S 15) n)), c)) := by
  have gn := hN.1
  have hn := hN.2.1
  have g5 := hN.2.2.1
  have hgl := mB_gl hN hm
  have hus := fun k p => us_of hN hm h19 (k := k) (p := p)
  have hi : ∀ (k : Nat) (v s : Int) (b : Bool), k < n → v = (k : Int) → s = bI b → ∀ R : eRes, (∀ s2 : Int, s2 = bI (b || decide (crR sz O Q f o k ≠ o k)) → ev m_W_narrowByCrossings 4 [some (eR 0), some (eI s2), some (eI (v + 1))] [] (wC (uS S 15 (cF (crR sz O Q f o) (S 15) (k + 1))), c) = R) → ∀ p : Nat, p ≤ sz k → ∀ u y : Int, u = ((crP O Q f o k p : Nat) : Int) → y = (p : Int) → ev m_W_narrowByCrossings 25 [some (eR 0), some (eI s), some (eI v), some (eI u), some (eI y)] [] (wC (uS S 15 (cF (crR sz O Q f o) (S 15) k)), c) = R := by
    intro k v s b hk hv hs R hR
    have hz := g5 k hk
    have hk15 : (uS S 15 (cF (crR sz O Q f o) (S 15) k)) 15 k = (o k : Int) := by rw [uS_at, cF_ge (Nat.le_refl _), ho k hk]
    have hb := bI_1 hs
    have hok := (hm k hk).1
    have hcr : crR sz O Q f o k < 1073741824 := mkM_30
    refine loop_up ?_ ?_
    · intro u y hu hy
      rw [show crP O Q f o k (sz k) = crR sz O Q f o k from rfl] at hu
      have hst : uI (uS S 15 (cF (crR sz O Q f o) (S 15) k)) 15 k u = uS S 15 (cF (crR sz O Q f o) (S 15) (k + 1)) := by rw [uI_uS, hu, cF_step]
      refine xLd (N := 6) (n := 24) (i := v) (F := fun zq => ev m_W_narrowByCrossings 36 [some (eR 0), some (eI s), some (eI v), some (eI u), some (eI y)] [eI (S 5 zq), eI y] (wC (uS S 15 (cF (crR sz O Q f o) (S 15) k)), c)) (k := k) rfl (wr_nat (by omega) (by omega)) (by omega) ?_
      refine xLtF (N := 1) (x := y) (y := S 5 k) (A := ev m_W_narrowByCrossings 39 [some (eR 0), some (eI s), some (eI v), some (eI u), some (eI y)] [] (wC (uS S 15 (cF (crR sz O Q f o) (S 15) k)), c)) (B := ev m_W_narrowByCrossings 57 [some (eR 0), some (eI s), some (eI v), some (eI u), some (eI y)] [] (wC (uS S 15 (cF (crR sz O Q f o) (S 15) k)), c)) rfl (wr_id (by omega) (by omega)) (wr_id (by omega) (by omega)) (by omega) ?_
      refine xEq (N := 2) (x := s) (y := 0) (A := ev m_W_narrowByCrossings 61 [some (eR 0), some (eI s), some (eI v), some (eI u), some (eI y)] [] (wC (uS S 15 (cF (crR sz O Q f o) (S 15) k)), c)) (B := ev m_W_narrowByCrossings 71 [some (eR 0), some (eI s), some (eI v), some (eI u), some (eI y)] [] (wC (uS S 15 (cF (crR sz O Q f o) (S 15) k)), c)) rfl (wr_id (by omega) (by omega)) (show wr 0 = 0 by decide) (fun h58 => ?_) (fun h58 => ?_)
      · refine xLd (N := 5) (n := 24) (i := v) (F := fun zq => ev m_W_narrowByCrossings 68 [some (eR 0), some (eI s), some (eI v), some (eI u), some (eI y)] [eI ((uS S 15 (cF (crR sz O Q f o) (S 15) k)) 15 zq), eI u] (wC (uS S 15 (cF (crR sz O Q f o) (S 15) k)), c)) (k := k) rfl (wr_nat (by omega) (by omega)) (by omega) ?_
        refine xEq (N := 1) (x := u) (y := (uS S 15 (cF (crR sz O Q f o) (S 15) k)) 15 k) (A := ev m_W_narrowByCrossings 75 [some (eR 0), some (eI s), some (eI v), some (eI u), some (eI y)] [] (wC (uS S 15 (cF (crR sz O Q f o) (S 15) k)), c)) (B := ev m_W_narrowByCrossings 71 [some (eR 0), some (eI s), some (eI v), some (eI u), some (eI y)] [] (wC (uS S 15 (cF (crR sz O Q f o) (S 15) k)), c)) rfl (wr_id (by omega) (by omega)) (wr_id (by omega) (by omega)) (fun h68 => ?_) (fun h68 => ?_)
        · refine xLd (N := 7) (n := 24) (i := v) (F := fun zq => ev m_W_narrowByCrossings 84 [some (eR 0), some (eI 0), some (eI v), some (eI u), some (eI y)] [] (wC (uI (uS S 15 (cF (crR sz O Q f o) (S 15) k)) 15 zq u), c)) (k := k) rfl (wr_nat (by omega) (by omega)) (by omega) ?_
          refine xSeg (N := 2) (r := ev m_W_narrowByCrossings 4 [some (eR 0), some (eI 0), some (eI (v + 1)), some (eI u), some (eI y)] [] (wC (uI (uS S 15 (cF (crR sz O Q f o) (S 15) k)) 15 k u), c)) rfl ?_
          refine xTk 3 (by rfl) rfl ?_
          rw [hst]
          first | exact hR 1 (bT (by rw [hb.2.1.mp (by omega)]; rfl)) | exact hR 1 (bT (by rw [decide_eq_true (by omega), Bool.or_true])) | exact hR 0 (bF (by rw [hb.2.2.mp (by omega), decide_eq_false (by omega)]; rfl))
        · refine xLd (N := 8) (n := 24) (i := v) (F := fun zq => ev m_W_narrowByCrossings 84 [some (eR 0), some (eI 1), some (eI v), some (eI u), some (eI y)] [] (wC (uI (uS S 15 (cF (crR sz O Q f o) (S 15) k)) 15 zq u), c)) (k := k) rfl (wr_nat (by omega) (by omega)) (by omega) ?_
          refine xSeg (N := 2) (r := ev m_W_narrowByCrossings 4 [some (eR 0), some (eI 1), some (eI (v + 1)), some (eI u), some (eI y)] [] (wC (uI (uS S 15 (cF (crR sz O Q f o) (S 15) k)) 15 k u), c)) rfl ?_
          refine xTk 3 (by rfl) rfl ?_
          rw [hst]
          first | exact hR 1 (bT (by rw [hb.2.1.mp (by omega)]; rfl)) | exact hR 1 (bT (by rw [decide_eq_true (by omega), Bool.or_true])) | exact hR 0 (bF (by rw [hb.2.2.mp (by omega), decide_eq_false (by omega)]; rfl))
      · refine xLd (N := 8) (n := 24) (i := v) (F := fun zq => ev m_W_narrowByCrossings 84 [some (eR 0), some (eI 1), some (eI v), some (eI u), some (eI y)] [] (wC (uI (uS S 15 (cF (crR sz O Q f o) (S 15) k)) 15 zq u), c)) (k := k) rfl (wr_nat (by omega) (by omega)) (by omega) ?_
        refine xSeg (N := 2) (r := ev m_W_narrowByCrossings 4 [some (eR 0), some (eI 1), some (eI (v + 1)), some (eI u), some (eI y)] [] (wC (uI (uS S 15 (cF (crR sz O Q f o) (S 15) k)) 15 k u), c)) rfl ?_
        refine xTk 3 (by rfl) rfl ?_
        rw [hst]
        first | exact hR 1 (bT (by rw [hb.2.1.mp (by omega)]; rfl)) | exact hR 1 (bT (by rw [decide_eq_true (by omega), Bool.or_true])) | exact hR 0 (bF (by rw [hb.2.2.mp (by omega), decide_eq_false (by omega)]; rfl))
    · intro p hp ih u y hu hy
      have hU := hus k p hk hp
      have hU2 := usOk_lt hU
      have hcp : crP O Q f o k p < 1073741824 := mkM_30
      refine xLd (N := 6) (n := 24) (i := v) (F := fun zq => ev m_W_narrowByCrossings 36 [some (eR 0), some (eI s), some (eI v), some (eI u), some (eI y)] [eI (S 5 zq), eI y] (wC (uS S 15 (cF (crR sz O Q f o) (S 15) k)), c)) (k := k) rfl (wr_nat (by omega) (by omega)) (by omega) ?_
      refine xLtT (N := 1) (x := y) (y := S 5 k) (A := ev m_W_narrowByCrossings 39 [some (eR 0), some (eI s), some (eI v), some (eI u), some (eI y)] [] (wC (uS S 15 (cF (crR sz O Q f o) (S 15) k)), c)) (B := ev m_W_narrowByCrossings 57 [some (eR 0), some (eI s), some (eI v), some (eI u), some (eI y)] [] (wC (uS S 15 (cF (crR sz O Q f o) (S 15) k)), c)) rfl (wr_id (by omega) (by omega)) (wr_id (by omega) (by omega)) (by omega) ?_
      refine xCallWI (N := 5) (v := ((unS O Q f o k p : Nat) : Int)) (M2 := m_W_narrowByCrossings) (pc2 := 44) (ls2 := [some (eR 0), some (eI s), some (eI v), some (eI u), some (eI y)]) (st2 := [eI u]) (y := m_W_unsupported) (as := [some (eR 0), some (eI v), some (eI y)]) (w2 := (wC (uS S 15 (cF (crR sz O Q f o) (S 15) k)), c)) rfl (c_unsupported (S := (uS S 15 (cF (crR sz O Q f o) (S 15) k))) (m0 := o k) (f := fun w => f w p) hv hy (by omega) (by omega) hk15 hok (fun w hw => hgl k hk w hw p hp) hU) (fun r44 hr44 => ?_)
      refine xTop (N := 3) (pc2 := 50) (ls2 := [some (eR 0), some (eI s), some (eI v), some (eI u), some (eI y)]) (a := bAnd u (bXor r44 (-1))) (b := ((crP O Q f o k (p + 1) : Nat) : Int)) (st2 := []) (w2 := (wC (uS S 15 (cF (crR sz O Q f o) (S 15) k)), c)) rfl (by rw [hr44, hu, bNot_n (by omega) _ (by omega), crP_step]) (fun u2 hu2 => ?_)
      refine xSeg (N := 3) (r := ev m_W_narrowByCrossings 25 [some (eR 0), some (eI s), some (eI v), some (eI u2), some (eI (y + 1))] [] (wC (uS S 15 (cF (crR sz O Q f o) (S 15) k)), c)) rfl ?_
      exact ih _ _ hu2 (by omega)
  have hl : ∀ k : Nat, k ≤ n → ∀ s v : Int, s = bI (anyN (fun k => decide (crR sz O Q f o k ≠ o k)) k) → v = ((k : Nat) : Int) → ev m_W_narrowByCrossings 4 [some (eR 0), some (eI s), some (eI v)] [] (wC (uS S 15 (cF (crR sz O Q f o) (S 15) k)), c) = some (.inl (some (eI (bI (anyN (fun k => decide (crR sz O Q f o k ≠ o k)) n)))), (wC (uS S 15 (cF (crR sz O Q f o) (S 15) n)), c)) := by
    refine loop_up ?_ ?_
    · intro s v hs hv
      have hb := bI_1 hs
      refine xLtF (N := 5) (x := v) (y := S 1 4) (A := ev m_W_narrowByCrossings 15 [some (eR 0), some (eI s), some (eI v)] [] (wC (uS S 15 (cF (crR sz O Q f o) (S 15) n)), c)) (B := ev m_W_narrowByCrossings 90 [some (eR 0), some (eI s), some (eI v)] [] (wC (uS S 15 (cF (crR sz O Q f o) (S 15) n)), c)) rfl (wr_id (by omega) (by omega)) (wr_id (by omega) (by omega)) (by omega) ?_
      refine xRb (N := 2) (v := s) (w2 := (wC (uS S 15 (cF (crR sz O Q f o) (S 15) n)), c)) rfl (by have h9 := hb.1; rw [wr_id (by omega) (by omega)]; omega) ?_
      rw [hs]
    · intro k hk ih s v hs hv
      have hok := (hm k hk).1
      have hk15 : (uS S 15 (cF (crR sz O Q f o) (S 15) k)) 15 k = (o k : Int) := by rw [uS_at, cF_ge (Nat.le_refl _), ho k hk]
      refine xLtT (N := 5) (x := v) (y := S 1 4) (A := ev m_W_narrowByCrossings 15 [some (eR 0), some (eI s), some (eI v)] [] (wC (uS S 15 (cF (crR sz O Q f o) (S 15) k)), c)) (B := ev m_W_narrowByCrossings 90 [some (eR 0), some (eI s), some (eI v)] [] (wC (uS S 15 (cF (crR sz O Q f o) (S 15) k)), c)) rfl (wr_id (by omega) (by omega)) (wr_id (by omega) (by omega)) (by omega) ?_
      refine xLd (N := 4) (n := 24) (i := v) (F := fun zq => ev m_W_narrowByCrossings 21 [some (eR 0), some (eI s), some (eI v)] [eI ((uS S 15 (cF (crR sz O Q f o) (S 15) k)) 15 zq)] (wC (uS S 15 (cF (crR sz O Q f o) (S 15) k)), c)) (k := k) rfl (wr_nat (by omega) (by omega)) (by omega) ?_
      refine xSeg (N := 3) (r := ev m_W_narrowByCrossings 25 [some (eR 0), some (eI s), some (eI v), some (eI ((uS S 15 (cF (crR sz O Q f o) (S 15) k)) 15 k)), some (eI 0)] [] (wC (uS S 15 (cF (crR sz O Q f o) (S 15) k)), c)) rfl ?_
      exact hi k v s _ hk hv hs _ (fun s2 h2 => ih _ _ h2 (by omega)) 0 (Nat.zero_le _) _ _ (by rw [crP_0 hok]; exact hk15) rfl
  have h0 := hl 0 (Nat.zero_le _) 0 0 rfl rfl
  rw [cF_0, uS_self] at h0
  refine xSeg (N := 4) (r := ev m_W_narrowByCrossings 4 [some (eR 0), some (eI 0), some (eI 0)] [] (wC S, c)) rfl ?_
  exact h0
