set_option maxRecDepth 100000
theorem c_single {S : wS} {c : Nat × Nat} {n : Nat} {o : Nat → Nat} (gn : S 1 4 = (n : Int)) (hn : n ≤ 24) (go : ∀ k, k < n → S 15 k = (o k : Int) ∧ o k < 1073741824) : ev m_W_narrowBySingles 0 [some (eR 0)] [] (wC S, c) = some (.inl (some (eI (bI (anyN (fun k => decide (sgR n o k ≠ o k)) n)))), (wC (uS S 15 (cF (sgR n o) (S 15) n)), c)) := by
  have hot := onN_lt (o := o) (n := n) (fun k hk => (go k hk).2)
  generalize hon : onN o n = on at hot
  generalize htw : twN o n = tw at hot
  have hsg : ∀ k, k < n → nDiff (o k) (bif sg1 o k then tw else on) = sgR n o k := fun k hk => by rw [← hon, ← htw]; exact sg_eq hk (fun k hk => (go k hk).2)
  have hl2 : ∀ k : Nat, k ≤ n → ∀ q z s v : Int, q = (on : Int) → z = (tw : Int) → s = bI (anyN (fun k => decide (sgR n o k ≠ o k)) k) → v = (k : Int) → ev m_W_narrowBySingles 56 [some (eR 0), some (eI q), some (eI z), some (eI s), some (eI v)] [] (wC (uS S 15 (cF (sgR n o) (S 15) k)), c) = some (.inl (some (eI (bI (anyN (fun k => decide (sgR n o k ≠ o k)) n)))), (wC (uS S 15 (cF (sgR n o) (S 15) n)), c)) := by
    refine loop_up ?_ ?_
    · intro q z s v hq hz hs hv
      have hb := bI_1 hs
      refine xLtF (N := 5) (x := v) (y := S 1 4) (A := ev m_W_narrowBySingles 68 [some (eR 0), some (eI q), some (eI z), some (eI s), some (eI v)] [] (wC (uS S 15 (cF (sgR n o) (S 15) n)), c)) (B := ev m_W_narrowBySingles 131 [some (eR 0), some (eI q), some (eI z), some (eI s), some (eI v)] [] (wC (uS S 15 (cF (sgR n o) (S 15) n)), c)) rfl (wr_id (by omega) (by omega)) (wr_id (by omega) (by omega)) (by omega) ?_
      refine xRb (N := 2) (v := s) (w2 := (wC (uS S 15 (cF (sgR n o) (S 15) n)), c)) rfl (by have h9 := hb.1; rw [wr_id (by omega) (by omega)]; omega) ?_
      rw [hs]
    · intro k hk ih q z s v hq hz hs hv
      have hb := bI_1 hs
      have hok := (go k hk).2
      have hk15 : (uS S 15 (cF (sgR n o) (S 15) k)) 15 k = (o k : Int) := by rw [uS_at, cF_ge (Nat.le_refl _), (go k hk).1]
      have hsk := hsg k hk
      have hr : sgR n o k < 1073741824 := mkM_30
      have hst : ∀ u : Int, u = ((sgR n o k : Nat) : Int) → uI (uS S 15 (cF (sgR n o) (S 15) k)) 15 k u = uS S 15 (cF (sgR n o) (S 15) (k + 1)) := fun u hu => by rw [uI_uS, hu, cF_step]
      have hh : ∀ (s2 : Int) (w2 : eW), (s2 = 1 ∧ (s ≠ 0 ∨ sgR n o k ≠ o k)) ∨ (s2 = 0 ∧ s = 0 ∧ sgR n o k = o k) → s2 = bI (anyN (fun k => decide (sgR n o k ≠ o k)) (k + 1)) := fun s2 _ h => by
        rcases h with ⟨h1, h2 | h2⟩ | ⟨h1, h2, h3⟩
        · rw [h1]; exact bT (by show (anyN _ k || decide (sgR n o k ≠ o k)) = true; rw [hb.2.1.mp (by omega), Bool.true_or])
        · rw [h1]; exact bT (by show (anyN _ k || decide (sgR n o k ≠ o k)) = true; rw [decide_eq_true h2, Bool.or_true])
        · rw [h1]; exact bF (by show (anyN _ k || decide (sgR n o k ≠ o k)) = false; rw [hb.2.2.mp h2, decide_eq_false (by omega), Bool.or_false])
      refine xLtT (N := 5) (x := v) (y := S 1 4) (A := ev m_W_narrowBySingles 68 [some (eR 0), some (eI q), some (eI z), some (eI s), some (eI v)] [] (wC (uS S 15 (cF (sgR n o) (S 15) k)), c)) (B := ev m_W_narrowBySingles 131 [some (eR 0), some (eI q), some (eI z), some (eI s), some (eI v)] [] (wC (uS S 15 (cF (sgR n o) (S 15) k)), c)) rfl (wr_id (by omega) (by omega)) (wr_id (by omega) (by omega)) (by omega) ?_
      refine xLd (N := 4) (n := 24) (i := v) (F := fun zq => ev m_W_narrowBySingles 75 [some (eR 0), some (eI q), some (eI z), some (eI s), some (eI v)] [eI ((uS S 15 (cF (sgR n o) (S 15) k)) 15 zq)] (wC (uS S 15 (cF (sgR n o) (S 15) k)), c)) (k := k) rfl (wr_nat (by omega) (by omega)) (by omega) ?_
      refine xCallWI (N := 3) (v := bI (sg1 o k)) (M2 := m_W_narrowBySingles) (pc2 := 78) (ls2 := [some (eR 0), some (eI q), some (eI z), some (eI s), some (eI v)]) (st2 := [eI ((uS S 15 (cF (sgR n o) (S 15) k)) 15 k)]) (y := m_W_hasSingle) (as := [some (eR 0), some (eI v)]) (w2 := (wC (uS S 15 (cF (sgR n o) (S 15) k)), c)) rfl (c_hasSingle hv (by omega) hk15 hok) (fun r78 hr78 => ?_)
      have hq2 := bI_1 hr78
      refine xEq (N := 1) (x := r78) (y := 0) (A := ev m_W_narrowBySingles 88 [some (eR 0), some (eI q), some (eI z), some (eI s), some (eI v)] [eI ((uS S 15 (cF (sgR n o) (S 15) k)) 15 k)] (wC (uS S 15 (cF (sgR n o) (S 15) k)), c)) (B := ev m_W_narrowBySingles 84 [some (eR 0), some (eI q), some (eI z), some (eI s), some (eI v)] [eI ((uS S 15 (cF (sgR n o) (S 15) k)) 15 k)] (wC (uS S 15 (cF (sgR n o) (S 15) k)), c)) rfl (wr_id (by omega) (by omega)) (show wr 0 = 0 by decide) (fun h81 => ?_) (fun h81 => ?_)
      · refine xTop (N := 4) (pc2 := 92) (ls2 := [some (eR 0), some (eI q), some (eI z), some (eI s), some (eI v)]) (a := bAnd ((uS S 15 (cF (sgR n o) (S 15) k)) 15 k) (bXor q (-1))) (b := ((sgR n o k : Nat) : Int)) (st2 := []) (w2 := (wC (uS S 15 (cF (sgR n o) (S 15) k)), c)) rfl (by first | (rw [hk15, hz, bNot_n (by omega) _ (by omega), ← hsk, hq2.2.1.mp (by omega), cond_true]) | (rw [hk15, hq, bNot_n (by omega) _ (by omega), ← hsk, hq2.2.2.mp (by omega), cond_false])) (fun u hu => ?_)
        refine xEq (N := 3) (x := s) (y := 0) (A := ev m_W_narrowBySingles 98 [some (eR 0), some (eI q), some (eI z), some (eI s), some (eI v), some (eI u)] [] (wC (uS S 15 (cF (sgR n o) (S 15) k)), c)) (B := ev m_W_narrowBySingles 110 [some (eR 0), some (eI q), some (eI z), some (eI s), some (eI v), some (eI u)] [] (wC (uS S 15 (cF (sgR n o) (S 15) k)), c)) rfl (wr_id (by omega) (by omega)) (show wr 0 = 0 by decide) (fun h95 => ?_) (fun h95 => ?_)
        · refine xLd (N := 5) (n := 24) (i := v) (F := fun zq => ev m_W_narrowBySingles 107 [some (eR 0), some (eI q), some (eI z), some (eI s), some (eI v), some (eI u)] [eI ((uS S 15 (cF (sgR n o) (S 15) k)) 15 zq), eI u] (wC (uS S 15 (cF (sgR n o) (S 15) k)), c)) (k := k) rfl (wr_nat (by omega) (by omega)) (by omega) ?_
          refine xEq (N := 1) (x := u) (y := (uS S 15 (cF (sgR n o) (S 15) k)) 15 k) (A := ev m_W_narrowBySingles 114 [some (eR 0), some (eI q), some (eI z), some (eI s), some (eI v), some (eI u)] [] (wC (uS S 15 (cF (sgR n o) (S 15) k)), c)) (B := ev m_W_narrowBySingles 110 [some (eR 0), some (eI q), some (eI z), some (eI s), some (eI v), some (eI u)] [] (wC (uS S 15 (cF (sgR n o) (S 15) k)), c)) rfl (wr_id (by omega) (by omega)) (wr_id (by omega) (by omega)) (fun h107 => ?_) (fun h107 => ?_)
          · refine xLd (N := 7) (n := 24) (i := v) (F := fun zq => ev m_W_narrowBySingles 125 [some (eR 0), some (eI q), some (eI z), some (eI 0), some (eI v), some (eI u)] [] (wC (uI (uS S 15 (cF (sgR n o) (S 15) k)) 15 zq u), c)) (k := k) rfl (wr_nat (by omega) (by omega)) (by omega) ?_
            refine xSeg (N := 2) (r := ev m_W_narrowBySingles 56 [some (eR 0), some (eI q), some (eI z), some (eI 0), some (eI (v + 1)), some (eI u)] [] (wC (uI (uS S 15 (cF (sgR n o) (S 15) k)) 15 k u), c)) rfl ?_
            refine xTk 5 (by rfl) rfl ?_
            rw [hst u hu]
            exact ih _ _ _ _ hq hz (hh _ (wC S, c) (by omega)) (by omega)
          · refine xLd (N := 8) (n := 24) (i := v) (F := fun zq => ev m_W_narrowBySingles 125 [some (eR 0), some (eI q), some (eI z), some (eI 1), some (eI v), some (eI u)] [] (wC (uI (uS S 15 (cF (sgR n o) (S 15) k)) 15 zq u), c)) (k := k) rfl (wr_nat (by omega) (by omega)) (by omega) ?_
            refine xSeg (N := 2) (r := ev m_W_narrowBySingles 56 [some (eR 0), some (eI q), some (eI z), some (eI 1), some (eI (v + 1)), some (eI u)] [] (wC (uI (uS S 15 (cF (sgR n o) (S 15) k)) 15 k u), c)) rfl ?_
            refine xTk 5 (by rfl) rfl ?_
            rw [hst u hu]
            exact ih _ _ _ _ hq hz (hh _ (wC S, c) (by omega)) (by omega)
        · refine xLd (N := 8) (n := 24) (i := v) (F := fun zq => ev m_W_narrowBySingles 125 [some (eR 0), some (eI q), some (eI z), some (eI 1), some (eI v), some (eI u)] [] (wC (uI (uS S 15 (cF (sgR n o) (S 15) k)) 15 zq u), c)) (k := k) rfl (wr_nat (by omega) (by omega)) (by omega) ?_
          refine xSeg (N := 2) (r := ev m_W_narrowBySingles 56 [some (eR 0), some (eI q), some (eI z), some (eI 1), some (eI (v + 1)), some (eI u)] [] (wC (uI (uS S 15 (cF (sgR n o) (S 15) k)) 15 k u), c)) rfl ?_
          refine xTk 5 (by rfl) rfl ?_
          rw [hst u hu]
          exact ih _ _ _ _ hq hz (hh _ (wC S, c) (by omega)) (by omega)
      · refine xTop (N := 5) (pc2 := 92) (ls2 := [some (eR 0), some (eI q), some (eI z), some (eI s), some (eI v)]) (a := bAnd ((uS S 15 (cF (sgR n o) (S 15) k)) 15 k) (bXor z (-1))) (b := ((sgR n o k : Nat) : Int)) (st2 := []) (w2 := (wC (uS S 15 (cF (sgR n o) (S 15) k)), c)) rfl (by first | (rw [hk15, hz, bNot_n (by omega) _ (by omega), ← hsk, hq2.2.1.mp (by omega), cond_true]) | (rw [hk15, hq, bNot_n (by omega) _ (by omega), ← hsk, hq2.2.2.mp (by omega), cond_false])) (fun u hu => ?_)
        refine xEq (N := 3) (x := s) (y := 0) (A := ev m_W_narrowBySingles 98 [some (eR 0), some (eI q), some (eI z), some (eI s), some (eI v), some (eI u)] [] (wC (uS S 15 (cF (sgR n o) (S 15) k)), c)) (B := ev m_W_narrowBySingles 110 [some (eR 0), some (eI q), some (eI z), some (eI s), some (eI v), some (eI u)] [] (wC (uS S 15 (cF (sgR n o) (S 15) k)), c)) rfl (wr_id (by omega) (by omega)) (show wr 0 = 0 by decide) (fun h95 => ?_) (fun h95 => ?_)
        · refine xLd (N := 5) (n := 24) (i := v) (F := fun zq => ev m_W_narrowBySingles 107 [some (eR 0), some (eI q), some (eI z), some (eI s), some (eI v), some (eI u)] [eI ((uS S 15 (cF (sgR n o) (S 15) k)) 15 zq), eI u] (wC (uS S 15 (cF (sgR n o) (S 15) k)), c)) (k := k) rfl (wr_nat (by omega) (by omega)) (by omega) ?_
          refine xEq (N := 1) (x := u) (y := (uS S 15 (cF (sgR n o) (S 15) k)) 15 k) (A := ev m_W_narrowBySingles 114 [some (eR 0), some (eI q), some (eI z), some (eI s), some (eI v), some (eI u)] [] (wC (uS S 15 (cF (sgR n o) (S 15) k)), c)) (B := ev m_W_narrowBySingles 110 [some (eR 0), some (eI q), some (eI z), some (eI s), some (eI v), some (eI u)] [] (wC (uS S 15 (cF (sgR n o) (S 15) k)), c)) rfl (wr_id (by omega) (by omega)) (wr_id (by omega) (by omega)) (fun h107 => ?_) (fun h107 => ?_)
          · refine xLd (N := 7) (n := 24) (i := v) (F := fun zq => ev m_W_narrowBySingles 125 [some (eR 0), some (eI q), some (eI z), some (eI 0), some (eI v), some (eI u)] [] (wC (uI (uS S 15 (cF (sgR n o) (S 15) k)) 15 zq u), c)) (k := k) rfl (wr_nat (by omega) (by omega)) (by omega) ?_
            refine xSeg (N := 2) (r := ev m_W_narrowBySingles 56 [some (eR 0), some (eI q), some (eI z), some (eI 0), some (eI (v + 1)), some (eI u)] [] (wC (uI (uS S 15 (cF (sgR n o) (S 15) k)) 15 k u), c)) rfl ?_
            refine xTk 5 (by rfl) rfl ?_
            rw [hst u hu]
            exact ih _ _ _ _ hq hz (hh _ (wC S, c) (by omega)) (by omega)
          · refine xLd (N := 8) (n := 24) (i := v) (F := fun zq => ev m_W_narrowBySingles 125 [some (eR 0), some (eI q), some (eI z), some (eI 1), some (eI v), some (eI u)] [] (wC (uI (uS S 15 (cF (sgR n o) (S 15) k)) 15 zq u), c)) (k := k) rfl (wr_nat (by omega) (by omega)) (by omega) ?_
            refine xSeg (N := 2) (r := ev m_W_narrowBySingles 56 [some (eR 0), some (eI q), some (eI z), some (eI 1), some (eI (v + 1)), some (eI u)] [] (wC (uI (uS S 15 (cF (sgR n o) (S 15) k)) 15 k u), c)) rfl ?_
            refine xTk 5 (by rfl) rfl ?_
            rw [hst u hu]
            exact ih _ _ _ _ hq hz (hh _ (wC S, c) (by omega)) (by omega)
        · refine xLd (N := 8) (n := 24) (i := v) (F := fun zq => ev m_W_narrowBySingles 125 [some (eR 0), some (eI q), some (eI z), some (eI 1), some (eI v), some (eI u)] [] (wC (uI (uS S 15 (cF (sgR n o) (S 15) k)) 15 zq u), c)) (k := k) rfl (wr_nat (by omega) (by omega)) (by omega) ?_
          refine xSeg (N := 2) (r := ev m_W_narrowBySingles 56 [some (eR 0), some (eI q), some (eI z), some (eI 1), some (eI (v + 1)), some (eI u)] [] (wC (uI (uS S 15 (cF (sgR n o) (S 15) k)) 15 k u), c)) rfl ?_
          refine xTk 5 (by rfl) rfl ?_
          rw [hst u hu]
          exact ih _ _ _ _ hq hz (hh _ (wC S, c) (by omega)) (by omega)
  have h0 : ∀ q z : Int, q = (on : Int) → z = (tw : Int) → ev m_W_narrowBySingles 56 [some (eR 0), some (eI q), some (eI z), some (eI 0), some (eI 0)] [] (wC S, c) = some (.inl (some (eI (bI (anyN (fun k => decide (sgR n o k ≠ o k)) n)))), (wC (uS S 15 (cF (sgR n o) (S 15) n)), c)) := fun q z hq hz => by
    have h := hl2 0 (Nat.zero_le _) q z 0 0 hq hz rfl rfl
    rw [cF_0, uS_self] at h
    exact h
  have hl : ∀ k : Nat, k ≤ n → ∀ q z y : Int, q = ((onN o k : Nat) : Int) → z = ((twN o k : Nat) : Int) → y = ((k : Nat) : Int) → ev m_W_narrowBySingles 6 [some (eR 0), some (eI q), some (eI z), some (eI y)] [] (wC S, c) = some (.inl (some (eI (bI (anyN (fun k => decide (sgR n o k ≠ o k)) n)))), (wC (uS S 15 (cF (sgR n o) (S 15) n)), c)) := by
    refine loop_up ?_ ?_
    · intro q z y hq hz hy
      rw [hon] at hq
      rw [htw] at hz
      refine xLtF (N := 5) (x := y) (y := S 1 4) (A := ev m_W_narrowBySingles 17 [some (eR 0), some (eI q), some (eI z), some (eI y)] [] (wC S, c)) (B := ev m_W_narrowBySingles 51 [some (eR 0), some (eI q), some (eI z), some (eI y)] [] (wC S, c)) rfl (wr_id (by omega) (by omega)) (wr_id (by omega) (by omega)) (by omega) ?_
      refine xSeg (N := 4) (r := ev m_W_narrowBySingles 56 [some (eR 0), some (eI q), some (eI z), some (eI 0), some (eI 0)] [] (wC S, c)) rfl ?_
      exact h0 q z hq hz
    · intro k hk ih q z y hq hz hy
      have hb := go k hk
      have hl1 := onN_lt (o := o) (n := k) (fun j hj => (go j (by omega)).2)
      have ha : (onN o k &&& o k) < 1073741824 := Nat.lt_of_le_of_lt Nat.and_le_left hl1.1
      refine xLtT (N := 5) (x := y) (y := S 1 4) (A := ev m_W_narrowBySingles 17 [some (eR 0), some (eI q), some (eI z), some (eI y)] [] (wC S, c)) (B := ev m_W_narrowBySingles 51 [some (eR 0), some (eI q), some (eI z), some (eI y)] [] (wC S, c)) rfl (wr_id (by omega) (by omega)) (wr_id (by omega) (by omega)) (by omega) ?_
      refine xCallWI (N := 3) (v := bI (sg1 o k)) (M2 := m_W_narrowBySingles) (pc2 := 19) (ls2 := [some (eR 0), some (eI q), some (eI z), some (eI y)]) (st2 := []) (y := m_W_hasSingle) (as := [some (eR 0), some (eI y)]) (w2 := (wC S, c)) rfl (c_hasSingle hy (by omega) hb.1 hb.2) (fun r19 hr19 => ?_)
      have hq2 := bI_1 hr19
      refine xEq (N := 1) (x := r19) (y := 0) (A := ev m_W_narrowBySingles 45 [some (eR 0), some (eI q), some (eI z), some (eI y)] [] (wC S, c)) (B := ev m_W_narrowBySingles 25 [some (eR 0), some (eI q), some (eI z), some (eI y)] [] (wC S, c)) rfl (wr_id (by omega) (by omega)) (show wr 0 = 0 by decide) (fun h22 => ?_) (fun h22 => ?_)
      · refine xSeg (N := 2) (r := ev m_W_narrowBySingles 6 [some (eR 0), some (eI q), some (eI z), some (eI (y + 1))] [] (wC S, c)) rfl ?_
        first | exact ih _ _ _ (by show _ = ((bif sg1 o k then onN o k ||| o k else onN o k : Nat) : Int); rw [hq2.2.1.mp (by omega), cond_true, hq, hb.1, bOr_n (by omega) (by omega)]) (by show _ = ((bif sg1 o k then twN o k ||| (onN o k &&& o k) else twN o k : Nat) : Int); rw [hq2.2.1.mp (by omega), cond_true, hz, hq, hb.1, bAnd_n (by omega), bOr_n (by omega) (by omega)]) (by omega) | exact ih _ _ _ (by show _ = ((bif sg1 o k then onN o k ||| o k else onN o k : Nat) : Int); rw [hq2.2.2.mp (by omega)]; exact hq) (by show _ = ((bif sg1 o k then twN o k ||| (onN o k &&& o k) else twN o k : Nat) : Int); rw [hq2.2.2.mp (by omega)]; exact hz) (by omega)
      · refine xLd (N := 6) (n := 24) (i := y) (F := fun zq => ev m_W_narrowBySingles 33 [some (eR 0), some (eI q), some (eI z), some (eI y)] [eI (S 15 zq), eI q, eI z] (wC S, c)) (k := k) rfl (wr_nat (by omega) (by omega)) (by omega) ?_
        refine xLd (N := 8) (n := 24) (i := y) (F := fun zq => ev m_W_narrowBySingles 43 [some (eR 0), some (eI q), some (eI (bOr z (bAnd q (S 15 k)))), some (eI y)] [eI (S 15 zq), eI q] (wC S, c)) (k := k) rfl (wr_nat (by omega) (by omega)) (by omega) ?_
        refine xSeg (N := 4) (r := ev m_W_narrowBySingles 6 [some (eR 0), some (eI (bOr q (S 15 k))), some (eI (bOr z (bAnd q (S 15 k)))), some (eI (y + 1))] [] (wC S, c)) rfl ?_
        first | exact ih _ _ _ (by show _ = ((bif sg1 o k then onN o k ||| o k else onN o k : Nat) : Int); rw [hq2.2.1.mp (by omega), cond_true, hq, hb.1, bOr_n (by omega) (by omega)]) (by show _ = ((bif sg1 o k then twN o k ||| (onN o k &&& o k) else twN o k : Nat) : Int); rw [hq2.2.1.mp (by omega), cond_true, hz, hq, hb.1, bAnd_n (by omega), bOr_n (by omega) (by omega)]) (by omega) | exact ih _ _ _ (by show _ = ((bif sg1 o k then onN o k ||| o k else onN o k : Nat) : Int); rw [hq2.2.2.mp (by omega)]; exact hq) (by show _ = ((bif sg1 o k then twN o k ||| (onN o k &&& o k) else twN o k : Nat) : Int); rw [hq2.2.2.mp (by omega)]; exact hz) (by omega)
  refine xSeg (N := 6) (r := ev m_W_narrowBySingles 6 [some (eR 0), some (eI 0), some (eI 0), some (eI 0)] [] (wC S, c)) rfl ?_
  exact hl 0 (Nat.zero_le _) _ _ _ rfl rfl rfl
