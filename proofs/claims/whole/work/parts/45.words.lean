/-! The class's words: cleared, and a word comes. -/
theorem uS_sw {S : wS} {a b : Nat} {A A' B : Nat → Int} (h : Nat.beq a b = false) : uS (uS (uS S a A) b B) a A' = uS (uS S a A') b B := by
  funext x
  unfold uS
  cases h1 : Nat.beq x a with
  | true =>
    have := Nat.eq_of_beq_eq_true h1
    subst this
    rw [h]
    rfl
  | false => cases h2 : Nat.beq x b <;> rfl
theorem uI_sw {S : wS} {a b i : Nat} {A B : Nat → Int} {v : Int} (h : Nat.beq a b = false) : uI (uS (uS S a A) b B) a i v = uS (uS S a (eUp A i v)) b B := by
  have h2 : (uS (uS S a A) b B) a = A := by
    unfold uS
    rw [h, cond_false, show Nat.beq a a = true from Nat.beq_refl a, cond_true]
  unfold uI
  rw [h2, uS_sw h]
set_option maxRecDepth 100000
theorem c_clear {S : wS} {c : Nat × Nat} : ev m_V_clear 0 [some (eR 11)] [] (wC S, c) = some (.inl none, (wC (uS (uI S 11 0 0) 14 (cF (fun _ => 0) (S 14) 26)), c)) := by
  generalize hT : uI S 11 0 0 = T
  have hT14 : T 14 = S 14 := by rw [← hT]; rfl
  have hl : ∀ k : Nat, k ≤ 26 → ∀ v : Int, v = ((k : Nat) : Int) → ev m_V_clear 7 [some (eR 11), some (eI v)] [] (wC (uS T 14 (cF (fun _ => 0) (S 14) k)), c) = some (.inl none, (wC (uS T 14 (cF (fun _ => 0) (S 14) 26)), c)) := by
    refine loop_up ?_ ?_
    · intro v hv
      refine xLtF (N := 3) (x := v) (y := 26) (A := ev m_V_clear 13 [some (eR 11), some (eI v)] [] (wC (uS T 14 (cF (fun _ => 0) (S 14) 26)), c)) (B := ev m_V_clear 26 [some (eR 11), some (eI v)] [] (wC (uS T 14 (cF (fun _ => 0) (S 14) 26)), c)) rfl (wr_id (by omega) (by omega)) (show wr 26 = 26 by decide) (by omega) ?_
      refine xSeg (N := 1) (r := some (.inl none, (wC (uS T 14 (cF (fun _ => 0) (S 14) 26)), c))) rfl ?_
      rfl
    · intro k hk ih v hv
      refine xLtT (N := 3) (x := v) (y := 26) (A := ev m_V_clear 13 [some (eR 11), some (eI v)] [] (wC (uS T 14 (cF (fun _ => 0) (S 14) k)), c)) (B := ev m_V_clear 26 [some (eR 11), some (eI v)] [] (wC (uS T 14 (cF (fun _ => 0) (S 14) k)), c)) rfl (wr_id (by omega) (by omega)) (show wr 26 = 26 by decide) (by omega) ?_
      refine xLd (N := 5) (n := 26) (i := v) (F := fun zq => ev m_V_clear 20 [some (eR 11), some (eI v)] [] (wC (uI (uS T 14 (cF (fun _ => 0) (S 14) k)) 14 zq 0), c)) (k := k) rfl (wr_nat (by omega) (by omega)) (by omega) ?_
      refine xSeg (N := 2) (r := ev m_V_clear 7 [some (eR 11), some (eI (v + 1))] [] (wC (uI (uS T 14 (cF (fun _ => 0) (S 14) k)) 14 k 0), c)) rfl ?_
      rw [uI_uS, show eUp (cF (fun _ => 0) (S 14) k) k 0 = cF (fun _ => 0) (S 14) (k + 1) from cF_step (r := fun _ => 0)]
      exact ih _ (by omega)
  have h0 := hl 0 (Nat.zero_le _) 0 rfl
  rw [cF_0, ← hT14, uS_self] at h0
  rw [hT14] at h0
  refine xSeg (N := 5) (r := ev m_V_clear 7 [some (eR 11), some (eI 0)] [] (wC (uI S 11 0 0), c)) rfl ?_
  rw [hT]
  exact h0
/-- the letters of the word m after p of its letters, and the counts of the letters -/
def aL (f : Nat → Nat) (old : Nat → Int) (m p : Nat) : Nat → Int := fun i => if m * 6 ≤ i ∧ i < m * 6 + p then (f (i - m * 6) : Int) else old i
def aH (f : Nat → Nat) (old : Nat → Int) (p : Nat) : Nat → Int := fun l => old l + bI (anyN (fun q => decide (f q = l)) p)
theorem aL_0 {f : Nat → Nat} {old : Nat → Int} {m : Nat} : aL f old m 0 = old := by funext i; unfold aL; rw [if_neg (by omega)]
theorem aH_0 {f : Nat → Nat} {old : Nat → Int} : aH f old 0 = old := by funext i; unfold aH anyN bI; simp
theorem aL_step {f : Nat → Nat} {old : Nat → Int} {m p : Nat} : eUp (aL f old m p) (m * 6 + p) (f p : Int) = aL f old m (p + 1) := by
  funext i
  unfold eUp aL
  by_cases hi : i = m * 6 + p
  · rw [if_pos hi, if_pos (by omega), hi, Nat.add_sub_cancel_left]
  · rw [if_neg hi]
    by_cases h : m * 6 ≤ i ∧ i < m * 6 + p
    · rw [if_pos h, if_pos (by omega)]
    · rw [if_neg h, if_neg (by omega)]
theorem aH_new {f : Nat → Nat} {old : Nat → Int} {p : Nat} (h : anyN (fun q => decide (f q = f p)) p = false) : eUp (aH f old p) (f p) (aH f old p (f p) + 1) = aH f old (p + 1) := by
  funext l
  unfold eUp
  by_cases hl : l = f p
  · rw [if_pos hl, hl]
    show old (f p) + bI (anyN _ p) + 1 = old (f p) + bI (anyN _ p || decide (f p = f p))
    rw [h, decide_eq_true rfl]
    simp [bI]
  · rw [if_neg hl]
    show old l + bI (anyN _ p) = old l + bI (anyN _ p || decide (f p = l))
    rw [decide_eq_false (fun e => hl e.symm), Bool.or_false]
theorem aH_old {f : Nat → Nat} {old : Nat → Int} {p : Nat} (h : anyN (fun q => decide (f q = f p)) p = true) : aH f old p = aH f old (p + 1) := by
  funext l
  show old l + bI (anyN _ p) = old l + bI (anyN _ p || decide (f p = l))
  by_cases hl : f p = l
  · rw [← hl, h]; rfl
  · rw [decide_eq_false hl, Bool.or_false]
def snN (f : Nat → Nat) (p : Nat) : Nat := orN (fun q => 2 ^ f q) p
theorem snN_tb {f : Nat → Nat} {p i : Nat} : (snN f p).testBit i = anyN (fun q => decide (f q = i)) p := by
  unfold snN
  rw [orN_tb]
  congr 1
  funext q
  rw [Nat.testBit_two_pow]
theorem c_add {S : wS} {c : Nat × Nat} {v z : Int} {m F L n : Nat} {f hd : Nat → Nat} {t : Nat → Int} (gm : S 11 0 = (m : Int)) (hm : m < 30) (g14 : ∀ l, l < 26 → S 14 l = (hd l : Int) ∧ hd l ≤ 30) (hv : v = (F : Int)) (hz : z = (L : Int)) (hL : L ≤ 6) (hF : F + L ≤ n) (hn : n ≤ 600) (ht : ∀ p, p < L → t (F + p) = ((97 + f p : Nat) : Int) ∧ f p < 26) : ev m_V_add 0 [some (eR 11), some (eR 20), some (eI v), some (eI z)] [] (wC S ++ [eA 0 n t], c) = some (.inl none, (wC (uI (uI (uS (uS S 13 (aL f (S 13) m L)) 14 (aH f (S 14) L)) 12 m z) 11 0 (S 11 0 + 1)) ++ [eA 0 n t], c)) := by
  have hl : ∀ p : Nat, p ≤ L → ∀ s y : Int, s = ((snN f p : Nat) : Int) → y = (p : Int) → ev m_V_add 16 [some (eR 11), some (eR 20), some (eI v), some (eI z), some (eI s), some (eI y)] [] (wC (uS (uS S 13 (aL f (S 13) m p)) 14 (aH f (S 14) p)) ++ [eA 0 n t], c) = some (.inl none, (wC (uI (uI (uS (uS S 13 (aL f (S 13) m L)) 14 (aH f (S 14) L)) 12 m z) 11 0 (S 11 0 + 1)) ++ [eA 0 n t], c)) := by
    refine loop_up ?_ ?_
    · intro s y hs hy
      refine xLtF (N := 3) (x := y) (y := z) (A := ev m_V_add 22 [some (eR 11), some (eR 20), some (eI v), some (eI z), some (eI s), some (eI y)] [] (wC (uS (uS S 13 (aL f (S 13) m L)) 14 (aH f (S 14) L)) ++ [eA 0 n t], c)) (B := ev m_V_add 86 [some (eR 11), some (eR 20), some (eI v), some (eI z), some (eI s), some (eI y)] [] (wC (uS (uS S 13 (aL f (S 13) m L)) 14 (aH f (S 14) L)) ++ [eA 0 n t], c)) rfl (wr_id (by omega) (by omega)) (wr_id (by omega) (by omega)) (by omega) ?_
      refine xLd (N := 6) (n := 30) (i := S 11 0) (F := fun zq => ev m_V_add 96 [some (eR 11), some (eR 20), some (eI v), some (eI z), some (eI s), some (eI y)] [] (wC (uI (uS (uS S 13 (aL f (S 13) m L)) 14 (aH f (S 14) L)) 12 zq z) ++ [eA 0 n t], c)) (k := m) rfl (wr_nat (by omega) (by omega)) (by omega) ?_
      refine xSeg (N := 7) (r := some (.inl none, (wC (uI (uI (uS (uS S 13 (aL f (S 13) m L)) 14 (aH f (S 14) L)) 12 m z) 11 0 ((S 11 0) + 1)) ++ [eA 0 n t], c))) rfl ?_
      rfl
    · intro p hp ih s y hs hy
      have hb := ht p hp
      have hlt : snN f p < 1073741824 := orN_lt (q := 30) (fun q hq => Nat.pow_lt_pow_right (by decide) (by have := (ht q (by omega)).2; omega))
      have hst : snN f (p + 1) = (snN f p ||| 2 ^ f p) := rfl
      have hhb : (aH f (S 14) p) (f p) = S 14 (f p) + bI (anyN (fun q => decide (f q = f p)) p) := rfl
      have hg := g14 (f p) hb.2
      refine xLtT (N := 3) (x := y) (y := z) (A := ev m_V_add 22 [some (eR 11), some (eR 20), some (eI v), some (eI z), some (eI s), some (eI y)] [] (wC (uS (uS S 13 (aL f (S 13) m p)) 14 (aH f (S 14) p)) ++ [eA 0 n t], c)) (B := ev m_V_add 86 [some (eR 11), some (eR 20), some (eI v), some (eI z), some (eI s), some (eI y)] [] (wC (uS (uS S 13 (aL f (S 13) m p)) 14 (aH f (S 14) p)) ++ [eA 0 n t], c)) rfl (wr_id (by omega) (by omega)) (wr_id (by omega) (by omega)) (by omega) ?_
      refine xLd (N := 5) (n := n) (i := v + y) (F := fun zq => ev m_V_add 28 [some (eR 11), some (eR 20), some (eI v), some (eI z), some (eI s), some (eI y)] [eI (t zq)] (wC (uS (uS S 13 (aL f (S 13) m p)) 14 (aH f (S 14) p)) ++ [eA 0 n t], c)) (k := F + p) rfl (wr_nat (by omega) (by omega)) (by omega) ?_
      refine xTop (N := 2) (pc2 := 31) (ls2 := [some (eR 11), some (eR 20), some (eI v), some (eI z), some (eI s), some (eI y)]) (a := (t (F + p)) - 97) (b := (f p : Int)) (st2 := []) (w2 := (wC (uS (uS S 13 (aL f (S 13) m p)) 14 (aH f (S 14) p)) ++ [eA 0 n t], c)) rfl (by omega) (fun u hu => ?_)
      refine xLd (N := 11) (n := 180) (i := ((S 11 0) * 6) + y) (F := fun zq => ev m_V_add 50 [some (eR 11), some (eR 20), some (eI v), some (eI z), some (eI s), some (eI y), some (eI u)] [] (wC (uI (uS (uS S 13 (aL f (S 13) m p)) 14 (aH f (S 14) p)) 13 zq u) ++ [eA 0 n t], c)) (k := (m * 6) + p) rfl (wr_nat (by omega) (by omega)) (by omega) ?_
      refine xTop (N := 5) (pc2 := 57) (ls2 := [some (eR 11), some (eR 20), some (eI v), some (eI z), some (eI s), some (eI y), some (eI u)]) (a := bAnd (bShr s u) 1) (b := bI ((snN f p).testBit (f p))) (st2 := []) (w2 := (wC (uI (uS (uS S 13 (aL f (S 13) m p)) 14 (aH f (S 14) p)) 13 ((m * 6) + p) u) ++ [eA 0 n t], c)) rfl (b_tb hs hlt hu (by omega)) (fun q hq => ?_)
      have hq2 := bI_1 hq
      have hst2 : uI (uS (uS S 13 (aL f (S 13) m p)) 14 (aH f (S 14) p)) 13 (m * 6 + p) u = uS (uS S 13 (aL f (S 13) m (p + 1))) 14 (aH f (S 14) p) := by rw [uI_sw rfl, hu, aL_step]
      refine xEq (N := 1) (x := q) (y := 0) (A := ev m_V_add 60 [some (eR 11), some (eR 20), some (eI v), some (eI z), some (eI s), some (eI y), some (eI u)] [] (wC (uI (uS (uS S 13 (aL f (S 13) m p)) 14 (aH f (S 14) p)) 13 ((m * 6) + p) u) ++ [eA 0 n t], c)) (B := ev m_V_add 71 [some (eR 11), some (eR 20), some (eI v), some (eI z), some (eI s), some (eI y), some (eI u)] [] (wC (uI (uS (uS S 13 (aL f (S 13) m p)) 14 (aH f (S 14) p)) 13 ((m * 6) + p) u) ++ [eA 0 n t], c)) rfl (wr_id (by omega) (by omega)) (show wr 0 = 0 by decide) (fun h57 => ?_) (fun h57 => ?_)
      · refine xLd (N := 5) (n := 26) (i := u) (F := fun zq => ev m_V_add 68 [some (eR 11), some (eR 20), some (eI v), some (eI z), some (eI s), some (eI y), some (eI u)] [eI ((uS (uS S 13 (aL f (S 13) m p)) 14 (aH f (S 14) p)) 14 zq), eI u, eR 14] (wC (uI (uS (uS S 13 (aL f (S 13) m p)) 14 (aH f (S 14) p)) 13 ((m * 6) + p) u) ++ [eA 0 n t], c)) (k := f p) rfl (wr_nat (by omega) (by omega)) (by omega) ?_
        refine xLd (N := 3) (n := 26) (i := u) (F := fun zq => ev m_V_add 71 [some (eR 11), some (eR 20), some (eI v), some (eI z), some (eI s), some (eI y), some (eI u)] [] (wC (uI (uI (uS (uS S 13 (aL f (S 13) m p)) 14 (aH f (S 14) p)) 13 ((m * 6) + p) u) 14 zq (((uS (uS S 13 (aL f (S 13) m p)) 14 (aH f (S 14) p)) 14 (f p)) + 1)) ++ [eA 0 n t], c)) (k := f p) rfl (wr_nat (by omega) (by omega)) (by omega) ?_
        refine xTop (N := 5) (pc2 := 78) (ls2 := [some (eR 11), some (eR 20), some (eI v), some (eI z), some (eI s), some (eI y), some (eI u)]) (a := bOr s (bShl 1 u)) (b := ((snN f p ||| 2 ^ f p : Nat) : Int)) (st2 := []) (w2 := (wC (uI (uI (uS (uS S 13 (aL f (S 13) m p)) 14 (aH f (S 14) p)) 13 ((m * 6) + p) u) 14 (f p) (((uS (uS S 13 (aL f (S 13) m p)) 14 (aH f (S 14) p)) 14 (f p)) + 1)) ++ [eA 0 n t], c)) rfl (i_or hs hlt hu (by omega)) (fun s2 hs2 => ?_)
        refine xSeg (N := 3) (r := ev m_V_add 16 [some (eR 11), some (eR 20), some (eI v), some (eI z), some (eI s2), some (eI (y + 1)), some (eI u)] [] (wC (uI (uI (uS (uS S 13 (aL f (S 13) m p)) 14 (aH f (S 14) p)) 13 ((m * 6) + p) u) 14 (f p) (((uS (uS S 13 (aL f (S 13) m p)) 14 (aH f (S 14) p)) 14 (f p)) + 1)) ++ [eA 0 n t], c)) rfl ?_
        refine xTk 6 (by rfl) rfl ?_
        first | (rw [hst2, uI_uS, show (uS (uS S 13 (aL f (S 13) m p)) 14 (aH f (S 14) p)) 14 (f p) = aH f (S 14) p (f p) from congrFun uS_at (f p), aH_new (by rw [← snN_tb]; exact hq2.2.2.mp (by omega))]; exact ih _ _ (by rw [hs2, hst]) (by omega)) | (rw [hst2, aH_old (by rw [← snN_tb]; exact hq2.2.1.mp (by omega))]; exact ih _ _ (by rw [hs2, hst]) (by omega))
      · refine xTop (N := 5) (pc2 := 78) (ls2 := [some (eR 11), some (eR 20), some (eI v), some (eI z), some (eI s), some (eI y), some (eI u)]) (a := bOr s (bShl 1 u)) (b := ((snN f p ||| 2 ^ f p : Nat) : Int)) (st2 := []) (w2 := (wC (uI (uS (uS S 13 (aL f (S 13) m p)) 14 (aH f (S 14) p)) 13 ((m * 6) + p) u) ++ [eA 0 n t], c)) rfl (i_or hs hlt hu (by omega)) (fun s2 hs2 => ?_)
        refine xSeg (N := 3) (r := ev m_V_add 16 [some (eR 11), some (eR 20), some (eI v), some (eI z), some (eI s2), some (eI (y + 1)), some (eI u)] [] (wC (uI (uS (uS S 13 (aL f (S 13) m p)) 14 (aH f (S 14) p)) 13 ((m * 6) + p) u) ++ [eA 0 n t], c)) rfl ?_
        refine xTk 6 (by rfl) rfl ?_
        first | (rw [hst2, uI_uS, show (uS (uS S 13 (aL f (S 13) m p)) 14 (aH f (S 14) p)) 14 (f p) = aH f (S 14) p (f p) from congrFun uS_at (f p), aH_new (by rw [← snN_tb]; exact hq2.2.2.mp (by omega))]; exact ih _ _ (by rw [hs2, hst]) (by omega)) | (rw [hst2, aH_old (by rw [← snN_tb]; exact hq2.2.1.mp (by omega))]; exact ih _ _ (by rw [hs2, hst]) (by omega))
  have h0 := hl 0 (Nat.zero_le _) 0 0 rfl rfl
  rw [aL_0, aH_0, uS_self, uS_self] at h0
  refine xLtT (N := 4) (x := S 11 0) (y := 30) (A := ev m_V_add 10 [some (eR 11), some (eR 20), some (eI v), some (eI z)] [] (wC S ++ [eA 0 n t], c)) (B := ev m_V_add 9 [some (eR 11), some (eR 20), some (eI v), some (eI z)] [] (wC S ++ [eA 0 n t], c)) rfl (wr_id (by omega) (by omega)) (show wr 30 = 30 by decide) (by omega) ?_
  refine xSeg (N := 4) (r := ev m_V_add 16 [some (eR 11), some (eR 20), some (eI v), some (eI z), some (eI 0), some (eI 0)] [] (wC S ++ [eA 0 n t], c)) rfl ?_
  exact h0
