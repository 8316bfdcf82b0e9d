/-! The class's window: candidates begin anew, guesses come and go. -/
set_option maxRecDepth 100000
/-- the words that fit the slot k -/
def ftB (sz wl : Nat → Nat) (G f : Nat → Nat → Nat) (k w : Nat) : Bool := decide (wl w = sz k) && allN (fun p => decide (G k p = 0 ∨ G k p = 97 + f w p)) (sz k)
theorem mkM_T {p : Nat → Bool} {w : Nat} (h : p w = true) : mkM p (w + 1) = (mkM p w ||| 2 ^ w) := by show (mkM p w ||| (bif p w then 2 ^ w else 0)) = _; rw [h]; rfl
theorem mkM_F {p : Nat → Bool} {w : Nat} (h : p w = false) : mkM p (w + 1) = mkM p w := by show (mkM p w ||| (bif p w then 2 ^ w else 0)) = _; rw [h, cond_false, Nat.or_zero]
theorem mkM_lt30 {p : Nat → Bool} {w : Nat} (h : w ≤ 30) : mkM p w < 1073741824 := Nat.lt_of_lt_of_le mkM_lt (show 2 ^ w ≤ 2 ^ 30 from Nat.pow_le_pow_right (by decide) h)
theorem c_beginAnew {S : wS} {c : Nat × Nat} {n m : Nat} {sz wl fs vt : Nat → Nat} {G f : Nat → Nat → Nat} (gn : S 1 4 = (n : Int)) (hn : n ≤ 24) (gm : S 11 0 = (m : Int)) (hm : m ≤ 30) (g5 : ∀ k, k < n → S 5 k = (sz k : Int) ∧ sz k ≤ 6) (g6 : ∀ k, k < n → S 6 k = (vt k : Int) ∧ vt k ≤ 1) (g4 : ∀ k, k < n → S 4 k = (fs k : Int)) (g3 : ∀ k p, k < n → p < sz k → fs k + p * strd (vt k) < 36 ∧ S 3 (fs k + p * strd (vt k)) = (G k p : Int) ∧ G k p < 128) (g12 : ∀ w, w < m → S 12 w = (wl w : Int) ∧ wl w ≤ 6) (g13 : ∀ w p, w < m → p < wl w → S 13 (w * 6 + p) = (f w p : Int) ∧ f w p < 26) : ev m_W_beginAnew 0 [some (eR 0)] [] (wC S, c) = some (.inl none, (wC (uS (uI (uI S 0 10 (S 0 10 + S 0 4)) 0 4 0) 15 (cF (fun k => mkM (ftB sz wl G f k) m) (S 15) n)), c)) := by
  generalize hfit : (fun k => mkM (ftB sz wl G f k) m) = fit
  have hfk : ∀ k, fit k = mkM (ftB sz wl G f k) m := fun k => by rw [← hfit]
  generalize hT : uI (uI S 0 10 (S 0 10 + S 0 4)) 0 4 0 = T
  have hTn : T 1 4 = (n : Int) := by rw [← hT]; exact gn
  have hTm : T 11 0 = (m : Int) := by rw [← hT]; exact gm
  have hT5 : ∀ k, k < n → T 5 k = (sz k : Int) ∧ sz k ≤ 6 := by rw [← hT]; exact g5
  have hT6 : ∀ k, k < n → T 6 k = (vt k : Int) ∧ vt k ≤ 1 := by rw [← hT]; exact g6
  have hT4 : ∀ k, k < n → T 4 k = (fs k : Int) := by rw [← hT]; exact g4
  have hT3 : ∀ k p, k < n → p < sz k → fs k + p * strd (vt k) < 36 ∧ T 3 (fs k + p * strd (vt k)) = (G k p : Int) ∧ G k p < 128 := by rw [← hT]; exact g3
  have hT12 : ∀ w, w < m → T 12 w = (wl w : Int) ∧ wl w ≤ 6 := by rw [← hT]; exact g12
  have hT13 : ∀ w p, w < m → p < wl w → T 13 (w * 6 + p) = (f w p : Int) ∧ f w p < 26 := by rw [← hT]; exact g13
  have hT15 : T 15 = S 15 := by rw [← hT]; rfl
  have hi : ∀ (k : Nat) (v : Int), k < n → v = (k : Int) → ∀ R : eRes, (∀ s y : Int, ev m_W_beginAnew 20 [some (eR 0), some (eI (v + 1))] [] (wC (uS T 15 (cF fit (S 15) (k + 1))), c) = R) → ∀ p : Nat, p ≤ m → ∀ s y : Int, s = ((mkM (ftB sz wl G f k) p : Nat) : Int) → y = (p : Int) → ev m_W_beginAnew 35 [some (eR 0), some (eI v), some (eI s), some (eI y)] [] (wC (uS T 15 (cF fit (S 15) k)), c) = R := by
    intro k v hk hv R hR
    refine loop_up ?_ ?_
    · intro s y hs hy
      have hst : uI (uS T 15 (cF fit (S 15) k)) 15 k s = uS T 15 (cF fit (S 15) (k + 1)) := by rw [uI_uS, hs, ← hfk, cF_step]
      refine xLtF (N := 5) (x := y) (y := T 11 0) (A := ev m_W_beginAnew 46 [some (eR 0), some (eI v), some (eI s), some (eI y)] [] (wC (uS T 15 (cF fit (S 15) k)), c)) (B := ev m_W_beginAnew 67 [some (eR 0), some (eI v), some (eI s), some (eI y)] [] (wC (uS T 15 (cF fit (S 15) k)), c)) rfl (wr_id (by omega) (by omega)) (wr_id (by omega) (by omega)) (by omega) ?_
      refine xLd (N := 5) (n := 24) (i := v) (F := fun zq => ev m_W_beginAnew 74 [some (eR 0), some (eI v), some (eI s), some (eI y)] [] (wC (uI (uS T 15 (cF fit (S 15) k)) 15 zq s), c)) (k := k) rfl (wr_nat (by omega) (by omega)) (by omega) ?_
      refine xSeg (N := 2) (r := ev m_W_beginAnew 20 [some (eR 0), some (eI (v + 1)), some (eI s), some (eI y)] [] (wC (uI (uS T 15 (cF fit (S 15) k)) 15 k s), c)) rfl ?_
      refine xTk 2 (by rfl) rfl ?_
      rw [hst]
      exact hR s y
    · intro p hp ih s y hs hy
      have hlt := mkM_lt30 (p := ftB sz wl G f k) (w := p) (by omega)
      refine xLtT (N := 5) (x := y) (y := T 11 0) (A := ev m_W_beginAnew 46 [some (eR 0), some (eI v), some (eI s), some (eI y)] [] (wC (uS T 15 (cF fit (S 15) k)), c)) (B := ev m_W_beginAnew 67 [some (eR 0), some (eI v), some (eI s), some (eI y)] [] (wC (uS T 15 (cF fit (S 15) k)), c)) rfl (wr_id (by omega) (by omega)) (wr_id (by omega) (by omega)) (by omega) ?_
      refine xCallWI (N := 4) (v := bI (ftB sz wl G f k p)) (M2 := m_W_beginAnew) (pc2 := 49) (ls2 := [some (eR 0), some (eI v), some (eI s), some (eI y)]) (st2 := []) (y := m_W_fits) (as := [some (eR 0), some (eI v), some (eI y)]) (w2 := (wC (uS T 15 (cF fit (S 15) k)), c)) rfl (c_fits (S := uS T 15 (cF fit (S 15) k)) (G := G k) (f := f p) hv hy (by omega) (by omega) (hT12 p hp).1 (hT12 p hp).2 (hT5 k hk).1 (hT5 k hk).2 (hT6 k hk).1 (hT6 k hk).2 (hT4 k hk) (fun q hq => hT3 k q hk hq) (fun q hq => hT13 p q hp hq)) (fun r49 hr49 => ?_)
      have hq := bI_1 hr49
      refine xEq (N := 1) (x := r49) (y := 0) (A := ev m_W_beginAnew 61 [some (eR 0), some (eI v), some (eI s), some (eI y)] [] (wC (uS T 15 (cF fit (S 15) k)), c)) (B := ev m_W_beginAnew 55 [some (eR 0), some (eI v), some (eI s), some (eI y)] [] (wC (uS T 15 (cF fit (S 15) k)), c)) rfl (wr_id (by omega) (by omega)) (show wr 0 = 0 by decide) (fun h52 => ?_) (fun h52 => ?_)
      · refine xSeg (N := 2) (r := ev m_W_beginAnew 35 [some (eR 0), some (eI v), some (eI s), some (eI (y + 1))] [] (wC (uS T 15 (cF fit (S 15) k)), c)) rfl ?_
        first | exact ih _ _ (by rw [hs2, mkM_T (hq.2.1.mp (by omega))]) (by omega) | exact ih _ _ (by rw [mkM_F (hq.2.2.mp (by omega))]; exact hs) (by omega)
      · refine xTop (N := 5) (pc2 := 60) (ls2 := [some (eR 0), some (eI v), some (eI s), some (eI y)]) (a := bOr s (bShl 1 y)) (b := ((mkM (ftB sz wl G f k) p ||| 2 ^ p : Nat) : Int)) (st2 := []) (w2 := (wC (uS T 15 (cF fit (S 15) k)), c)) rfl (i_or hs hlt hy (by omega)) (fun s2 hs2 => ?_)
        refine xSeg (N := 3) (r := ev m_W_beginAnew 35 [some (eR 0), some (eI v), some (eI s2), some (eI (y + 1))] [] (wC (uS T 15 (cF fit (S 15) k)), c)) rfl ?_
        first | exact ih _ _ (by rw [hs2, mkM_T (hq.2.1.mp (by omega))]) (by omega) | exact ih _ _ (by rw [mkM_F (hq.2.2.mp (by omega))]; exact hs) (by omega)
  have hl : ∀ k : Nat, k ≤ n → ∀ v : Int, v = ((k : Nat) : Int) → ev m_W_beginAnew 20 [some (eR 0), some (eI v)] [] (wC (uS T 15 (cF fit (S 15) k)), c) = some (.inl none, (wC (uS T 15 (cF fit (S 15) n)), c)) := by
    refine loop_up ?_ ?_
    · intro v hv
      refine xLtF (N := 5) (x := v) (y := T 1 4) (A := ev m_W_beginAnew 31 [some (eR 0), some (eI v)] [] (wC (uS T 15 (cF fit (S 15) n)), c)) (B := ev m_W_beginAnew 80 [some (eR 0), some (eI v)] [] (wC (uS T 15 (cF fit (S 15) n)), c)) rfl (wr_id (by omega) (by omega)) (wr_id (by omega) (by omega)) (by omega) ?_
      refine xSeg (N := 1) (r := some (.inl none, (wC (uS T 15 (cF fit (S 15) n)), c))) rfl ?_
      rfl
    · intro k hk ih v hv
      refine xLtT (N := 5) (x := v) (y := T 1 4) (A := ev m_W_beginAnew 31 [some (eR 0), some (eI v)] [] (wC (uS T 15 (cF fit (S 15) k)), c)) (B := ev m_W_beginAnew 80 [some (eR 0), some (eI v)] [] (wC (uS T 15 (cF fit (S 15) k)), c)) rfl (wr_id (by omega) (by omega)) (wr_id (by omega) (by omega)) (by omega) ?_
      refine xSeg (N := 4) (r := ev m_W_beginAnew 35 [some (eR 0), some (eI v), some (eI 0), some (eI 0)] [] (wC (uS T 15 (cF fit (S 15) k)), c)) rfl ?_
      exact hi k v hk hv _ (fun s y => ih _ (by omega)) 0 (Nat.zero_le _) _ _ rfl rfl
  have h0 := hl 0 (Nat.zero_le _) 0 rfl
  rw [cF_0, ← hT15, uS_self] at h0
  rw [hT15] at h0
  refine xSeg (N := 12) (r := ev m_W_beginAnew 20 [some (eR 0), some (eI 0)] [] (wC (uI (uI S 0 10 ((S 0 10) + (S 0 4))) 0 4 0), c)) rfl ?_
  rw [hT]
  exact h0
/-- a guess is made -/
def pgS (S : wS) (d k : Nat) (x y : Int) (v : Int) : wS := uI (uI (uI (uI (uI (uS S 18 (eCpy (S 15) (S 18) 0 (d * 24) 24)) 16 d x) 17 d y) 0 4 (S 0 4 + 1)) 0 8 (S 0 8 + 1)) 15 k v
theorem c_pushGuess {S : wS} {c : Nat × Nat} {x y : Int} {d k w : Nat} (gd : S 0 4 = (d : Int)) (hd : d < 24) (hx : x = (k : Int)) (hy : y = (w : Int)) (hk : k < 24) (hw : w < 31) : ev m_W_pushGuess 0 [some (eR 0), some (eI x), some (eI y)] [] (wC S, c) = some (.inl none, (wC (pgS S d k x y ((2 ^ w : Nat) : Int)), c)) := by
  refine xLtT (N := 4) (x := S 0 4) (y := 24) (A := ev m_W_pushGuess 10 [some (eR 0), some (eI x), some (eI y)] [] (wC S, c)) (B := ev m_W_pushGuess 9 [some (eR 0), some (eI x), some (eI y)] [] (wC S, c)) rfl (wr_id (by omega) (by omega)) (show wr 24 = 24 by decide) (by omega) ?_
  refine xCp (N := 11) (sp := 0) (dp := (S 0 4) * 24) (n := 24) (n0 := 24) (n1 := 576) (F := fun zq1 zq2 zq3 => ev m_W_pushGuess 31 [some (eR 0), some (eI x), some (eI y)] [] (wC (uS S 18 (eCpy (S 15) (S 18) zq1 zq2 zq3)), c)) (ks := 0) (kd := d * 24) (k := 24) rfl (show wr 0 = ((0 : Nat) : Int) by decide) (wr_nat (by omega) (by omega)) (show wr 24 = ((24 : Nat) : Int) by decide) (by omega) (by omega) ?_
  refine xLd (N := 6) (n := 24) (i := S 0 4) (F := fun zq => ev m_W_pushGuess 41 [some (eR 0), some (eI x), some (eI y)] [] (wC (uI (uS S 18 (eCpy (S 15) (S 18) 0 (d * 24) 24)) 16 zq x), c)) (k := d) rfl (wr_nat (by omega) (by omega)) (by omega) ?_
  refine xLd (N := 6) (n := 24) (i := S 0 4) (F := fun zq => ev m_W_pushGuess 51 [some (eR 0), some (eI x), some (eI y)] [] (wC (uI (uI (uS S 18 (eCpy (S 15) (S 18) 0 (d * 24) 24)) 16 d x) 17 zq y), c)) (k := d) rfl (wr_nat (by omega) (by omega)) (by omega) ?_
  refine xTop (N := 18) (pc2 := 79) (ls2 := [some (eR 0), some (eI x), some (eI y)]) (a := bShl 1 y) (b := ((2 ^ w : Nat) : Int)) (st2 := [eI x, eR 15]) (w2 := (wC (uI (uI (uI (uI (uS S 18 (eCpy (S 15) (S 18) 0 (d * 24) 24)) 16 d x) 17 d y) 0 4 ((S 0 4) + 1)) 0 8 ((S 0 8) + 1)), c)) rfl (by rw [hy, bShl1_n w hw]) (fun v hv => ?_)
  refine xLd (N := 1) (n := 24) (i := x) (F := fun zq => ev m_W_pushGuess 80 [some (eR 0), some (eI x), some (eI y)] [] (wC (uI (uI (uI (uI (uI (uS S 18 (eCpy (S 15) (S 18) 0 (d * 24) 24)) 16 d x) 17 d y) 0 4 ((S 0 4) + 1)) 0 8 ((S 0 8) + 1)) 15 zq v), c)) (k := k) rfl (wr_nat (by omega) (by omega)) (by omega) ?_
  refine xSeg (N := 1) (r := some (.inl none, (wC (uI (uI (uI (uI (uI (uS S 18 (eCpy (S 15) (S 18) 0 (d * 24) 24)) 16 d x) 17 d y) 0 4 ((S 0 4) + 1)) 0 8 ((S 0 8) + 1)) 15 k v), c))) rfl ?_
  rw [hv]
  rfl
/-- the latest guess is taken back: what is left of it -/
def qgS (S : wS) (d k : Nat) (v : Int) : wS := uI (uS (uI (uI S 0 4 (S 0 4 - 1)) 0 9 (S 0 9 + 1)) 15 (eCpy (S 18) (S 15) (d * 24) 0 24)) 15 k v
theorem c_popGuess {S : wS} {c : Nat × Nat} {d k w mk : Nat} (gd : S 0 4 = ((d + 1 : Nat) : Int)) (hd : d < 24) (gk : S 16 d = (k : Int)) (gw : S 17 d = (w : Int)) (hk : k < 24) (hw : w < 31) (gb : S 18 (d * 24 + k) = (mk : Int)) (hm : mk < 1073741824) : ev m_W_popGuess 0 [some (eR 0)] [] (wC S, c) = some (.inl none, (wC (qgS S d k ((nDiff mk (2 ^ w) : Nat) : Int)), c)) := by
  have hp : 2 ^ w < 2147483648 := Nat.pow_lt_pow_right (n := 31) (by decide) hw
  have hcp : eCpy (S 18) (S 15) (d * 24) 0 24 k = (mk : Int) := by
    unfold eCpy
    rw [if_pos (by omega), Nat.sub_zero]
    exact gb
  refine xLtT (N := 3) (x := 0) (y := S 0 4) (A := ev m_W_popGuess 8 [some (eR 0)] [] (wC S, c)) (B := ev m_W_popGuess 7 [some (eR 0)] [] (wC S, c)) rfl (show wr 0 = 0 by decide) (wr_id (by omega) (by omega)) (by omega) ?_
  refine xCp (N := 23) (sp := ((S 0 4) - 1) * 24) (dp := 0) (n := 24) (n0 := 576) (n1 := 24) (F := fun zq1 zq2 zq3 => ev m_W_popGuess 49 [some (eR 0)] [] (wC (uS (uI (uI S 0 4 ((S 0 4) - 1)) 0 9 ((S 0 9) + 1)) 15 (eCpy (S 18) (S 15) zq1 zq2 zq3)), c)) (ks := d * 24) (kd := 0) (k := 24) rfl (wr_nat (by omega) (by omega)) (show wr 0 = ((0 : Nat) : Int) by decide) (show wr 24 = ((24 : Nat) : Int) by decide) (by omega) (by omega) ?_
  refine xLd (N := 7) (n := 24) (i := (S 0 4) - 1) (F := fun zq => ev m_W_popGuess 62 [some (eR 0)] [eI (S 16 zq), eR 15] (wC (uS (uI (uI S 0 4 ((S 0 4) - 1)) 0 9 ((S 0 9) + 1)) 15 (eCpy (S 18) (S 15) (d * 24) 0 24)), c)) (k := d) rfl (wr_nat (by omega) (by omega)) (by omega) ?_
  refine xLd (N := 2) (n := 24) (i := S 16 d) (F := fun zq => ev m_W_popGuess 64 [some (eR 0)] [eI ((uS (uI (uI S 0 4 ((S 0 4) - 1)) 0 9 ((S 0 9) + 1)) 15 (eCpy (S 18) (S 15) (d * 24) 0 24)) 15 zq), eI (S 16 d), eR 15] (wC (uS (uI (uI S 0 4 ((S 0 4) - 1)) 0 9 ((S 0 9) + 1)) 15 (eCpy (S 18) (S 15) (d * 24) 0 24)), c)) (k := k) rfl (wr_nat (by omega) (by omega)) (by omega) ?_
  refine xLd (N := 6) (n := 24) (i := (S 0 4) - 1) (F := fun zq => ev m_W_popGuess 74 [some (eR 0)] [eI (S 17 zq), eI 1, eI ((uS (uI (uI S 0 4 ((S 0 4) - 1)) 0 9 ((S 0 9) + 1)) 15 (eCpy (S 18) (S 15) (d * 24) 0 24)) 15 k), eI (S 16 d), eR 15] (wC (uS (uI (uI S 0 4 ((S 0 4) - 1)) 0 9 ((S 0 9) + 1)) 15 (eCpy (S 18) (S 15) (d * 24) 0 24)), c)) (k := d) rfl (wr_nat (by omega) (by omega)) (by omega) ?_
  refine xTop (N := 4) (pc2 := 78) (ls2 := [some (eR 0)]) (a := bAnd ((uS (uI (uI S 0 4 ((S 0 4) - 1)) 0 9 ((S 0 9) + 1)) 15 (eCpy (S 18) (S 15) (d * 24) 0 24)) 15 k) (bXor (bShl 1 (S 17 d)) (-1))) (b := ((nDiff mk (2 ^ w) : Nat) : Int)) (st2 := [eI (S 16 d), eR 15]) (w2 := (wC (uS (uI (uI S 0 4 ((S 0 4) - 1)) 0 9 ((S 0 9) + 1)) 15 (eCpy (S 18) (S 15) (d * 24) 0 24)), c)) rfl (by rw [show uS (uI (uI S 0 4 (S 0 4 - 1)) 0 9 (S 0 9 + 1)) 15 (eCpy (S 18) (S 15) (d * 24) 0 24) 15 k = (mk : Int) from (congrFun uS_at k).trans hcp, gw, bShl1_n w hw, bNot_n hp _ (by omega)]) (fun v hv => ?_)
  refine xLd (N := 1) (n := 24) (i := S 16 d) (F := fun zq => ev m_W_popGuess 79 [some (eR 0)] [] (wC (uI (uS (uI (uI S 0 4 ((S 0 4) - 1)) 0 9 ((S 0 9) + 1)) 15 (eCpy (S 18) (S 15) (d * 24) 0 24)) 15 zq v), c)) (k := k) rfl (wr_nat (by omega) (by omega)) (by omega) ?_
  refine xSeg (N := 1) (r := some (.inl none, (wC (uI (uS (uI (uI S 0 4 ((S 0 4) - 1)) 0 9 ((S 0 9) + 1)) 15 (eCpy (S 18) (S 15) (d * 24) 0 24)) 15 k v), c))) rfl ?_
  rw [hv]
  rfl
