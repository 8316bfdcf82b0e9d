/-! Steps. -/
theorem bsA_gt {f : Nat → Nat} : ∀ {k : Nat} {j : Nat}, (bsA f k).1 = (j : Int) → 1 < f j ∧ j < k
  | 0, j, h => by simp [bsA] at h
  | k + 1, j, h => by
    by_cases hc : 1 < f k ∧ f k < (bsA f k).2
    · rw [bsA_T hc] at h
      dsimp only at h
      obtain rfl : k = j := by omega
      exact ⟨hc.1, by omega⟩
    · rw [bsA_F hc] at h
      have := bsA_gt h
      exact ⟨this.1, by omega⟩
theorem bwA_q {q : Nat → Bool} {f : Nat → Nat} : ∀ {k : Nat} {j : Nat}, (bwA q f k).1 = (j : Int) → q j = true ∧ j < k
  | 0, j, h => by simp [bwA] at h
  | k + 1, j, h => by
    by_cases hc : q k = true ∧ (bwA q f k).2 < f k
    · rw [bwA_T hc.1 hc.2] at h
      dsimp only at h
      obtain rfl : k = j := by omega
      exact ⟨hc.1, by omega⟩
    · have h2 : bwA q f (k + 1) = bwA q f k := by simp only [bwA]; rw [if_neg hc]
      rw [h2] at h
      have := bwA_q h
      exact ⟨this.1, by omega⟩
theorem bwA_some {q : Nat → Bool} {f : Nat → Nat} (hf : ∀ k, q k = true → 0 < f k) : ∀ {k : Nat}, (∃ w, w < k ∧ q w = true) → ∃ j : Nat, (bwA q f k).1 = (j : Int)
  | 0, ⟨w, h, _⟩ => by omega
  | k + 1, ⟨w, h, hq⟩ => by
    rcases bwA_i (q := q) (f := f) (k := k + 1) with ⟨h1, h2⟩ | ⟨j, h1, h2, h3⟩
    · exfalso
      by_cases hc : q k = true ∧ (bwA q f k).2 < f k
      · rw [bwA_T hc.1 hc.2] at h1
        dsimp only at h1
        omega
      · have h4 : bwA q f (k + 1) = bwA q f k := by simp only [bwA]; rw [if_neg hc]
        rw [h4] at h1 h2
        by_cases hwk : w = k
        · subst hwk
          have := hf w hq
          exact hc ⟨hq, by omega⟩
        · obtain ⟨j, h5⟩ := bwA_some hf (k := k) ⟨w, by omega, hq⟩
          omega
    · exact ⟨j, h2⟩
/-- the best slot and its best word -/
def bkS (a : eRow) : Nat := (bsA (fun k => pc 30 (op a k)) (a 3)).1.toNat
def bkW (a : eRow) : Nat := (bwA (op a (bkS a)).testBit (wp a) (a 2)).1.toNat
theorem best_ok {a : eRow} (hI : iA a) (h4 : a 4 = 0) (h3 : 0 < a 3) : (bsA (fun k => pc 30 (op a k)) (a 3)).1 = (bkS a : Int) ∧ bkS a < a 3 ∧ 1 < pc 30 (op a (bkS a)) ∧ (bwA (op a (bkS a)).testBit (wp a) (a 2)).1 = (bkW a : Int) ∧ (op a (bkS a)).testBit (bkW a) = true := by
  obtain ⟨hG, hV, hO, hT, hM⟩ := hI
  have hmd := hM.2.2 (by omega)
  rw [h4] at hmd
  have hne : (bsA (fun k => pc 30 (op a k)) (a 3)).1 ≠ -1 := fun e => by
    unfold mdN at hmd
    split at hmd
    · omega
    · rw [if_pos ⟨h3, e⟩] at hmd; omega
  have hb := bsA_1b (f := fun k => pc 30 (op a k)) (k := a 3)
  have e1 : (bsA (fun k => pc 30 (op a k)) (a 3)).1 = (bkS a : Int) := by unfold bkS; omega
  obtain ⟨g1, g2⟩ := bsA_gt e1
  have hex : ∃ w, w < a 2 ∧ (op a (bkS a)).testBit w = true := by
    have hz : pc 30 (op a (bkS a)) ≠ 0 := by
      have : 1 < pc 30 (op a (bkS a)) := g1
      omega
    obtain ⟨t, ht, _⟩ := low_get (hO _ g2).1 hz
    exact ⟨t, ((hO _ g2).2 t ht).1, ht⟩
  obtain ⟨j, hj⟩ := bwA_some (q := (op a (bkS a)).testBit) (f := wp a) (fun w hw => by
    have h9 := ((hO _ g2).2 w hw).1
    have := wpz_pos (hold a) (lt a w) (L := wl a w) (by have := (hV.2 w h9).1; omega)
    exact this) hex
  have e2 : (bwA (op a (bkS a)).testBit (wp a) (a 2)).1 = (bkW a : Int) := by unfold bkW; omega
  exact ⟨e1, g2, g1, e2, (bwA_q e2).1⟩
/-- a step -/
def cnS (a : eRow) : Bool := decide (0 < a 3 ∧ (a 4 = 0 ∨ a 4 = 2))
def stp (a : eRow) : eRow := if a 4 = 0 then gsA a (bkS a) (bkW a) else if 0 < a 5 then tbA a else up a 4 3
theorem up4_sm {a : eRow} {v : Nat} : sm a (up a 4 v) := up_sm (by omega)
theorem up4_hi {a : eRow} {v i : Nat} (h : i ≠ 4) : up a 4 v i = a i := up_ne h
theorem iA_stp {a : eRow} (hI : iA a) (hc : cnS a = true) : iA (stp a) := by
  have h := of_decide_eq_true hc
  unfold stp
  by_cases h4 : a 4 = 0
  · rw [if_pos h4]
    obtain ⟨b1, b2, b3, b4, b5⟩ := best_ok hI h4 h.1
    exact iA_gs hI b2 b3 b5
  · rw [if_neg h4]
    by_cases h5 : 0 < a 5
    · rw [if_pos h5]
      exact iA_tb hI h5
    · rw [if_neg h5]
      obtain ⟨hG, hV, hO, hT, hM⟩ := hI
      have e5 : up a 4 3 5 = a 5 := up_ne (by omega)
      have e3 : up a 4 3 3 = a 3 := up_ne (by omega)
      refine ⟨sm_iG up4_sm hG, sm_iV up4_sm hV, mA_cong (fun k hk => ?_) (sm_mA up4_sm hG hV (iO_mA hO)), fun l hl => by rw [e5] at hl; omega, by rw [up_at]; omega, fun _ => by rw [e5]; omega, fun h9 => absurd up_at h9⟩
      rw [up_op (by omega)]
def sv : Nat → eRow → eRow
  | 0, a => a
  | d + 1, a => bif cnS a then sv d (stp a) else a
def svc : Nat → eRow → Nat
  | 0, _ => 0
  | d + 1, a => bif cnS a then svc d (stp a) + 1 else 0
theorem svc_le : ∀ {d : Nat} {a : eRow}, svc d a ≤ d
  | 0, _ => Nat.le_refl _
  | d + 1, a => by
    show (bif cnS a then svc d (stp a) + 1 else 0) ≤ d + 1
    cases cnS a with
    | true => have := svc_le (d := d) (a := stp a); rw [cond_true]; omega
    | false => rw [cond_false]; omega
theorem iA_sv : ∀ {d : Nat} {a : eRow}, iA a → iA (sv d a)
  | 0, _, h => h
  | d + 1, a, h => by
    show iA (bif cnS a then sv d (stp a) else a)
    cases hc : cnS a with
    | true => exact iA_sv (iA_stp h hc)
    | false => exact h
set_option maxRecDepth 100000
theorem n_steps {g mk fr P : Nat → Int} {a : eRow} {c : Nat × Nat} (hg : rg g a) (hI : iA a) (hc : cnS a = true) : ∃ g' mk' fr' : Nat → Int, rg g' (stp a) ∧ ev m_M_steps 0 [some (eR 1), some (eR 0)] [] ([eA 0 964 g, mO P, eA 0 144 mk, eA 0 24 fr], c) = some (.inl (some (eI ((stp a 4 : Nat) : Int))), ([eA 0 964 g', mO P, eA 0 144 mk', eA 0 24 fr'], c)) := by
  have h := of_decide_eq_true hc
  have hn := hI.1.1.2.2.2.2
  have g4 := hg 4 (by omega)
  have g5 := hg 5 (by omega)
  have h24 := iT_24 hn hI.2.2.2.1
  unfold stp
  by_cases h4 : a 4 = 0
  · rw [if_pos h4]
    obtain ⟨b1, b2, b3, b4, b5⟩ := best_ok hI h4 h.1
    have hbe := rowRd (V := [eA 0 964 g, mO P, eA 0 144 mk, eA 0 24 fr]) (p := 0) (d := c) (n_best (c := (0, 0)) hg hn (fun k hk => (hI.2.2.1 k hk).1)) rfl rfl
    rw [b1] at hbe
    have hbo := fun x hx => rowRd (V := [eA 0 964 g, mO P, eA 0 144 mk, eA 0 24 fr]) (p := 0) (d := c) (n_bestOf (c := (0, 0)) (x := x) (k := bkS a) hg hI.2.1 hx (by omega) (hI.2.2.1 _ b2).1) rfl rfl
    rw [b4] at hbo
    have htg := fun x y hx hy => n_takesGuess (P := P) (mk := mk) (fr := fr) (c := c) (x := x) (y := y) hg hI hx hy b2 b3 b5
    have hfin : ∀ x y : Int, x = (bkS a : Int) → y = (bkW a : Int) → ∃ g' mk' fr' : Nat → Int, rg g' (gsA a (bkS a) (bkW a)) ∧ ev m_M_steps 19 [some (eR 1), some (eR 0), some (eI x)] [eI y, eI x, eR 0, eR 1] ([eA 0 964 g, mO P, eA 0 144 mk, eA 0 24 fr], c) = some (.inl (some (eI ((gsA a (bkS a) (bkW a) 4 : Nat) : Int))), ([eA 0 964 g', mO P, eA 0 144 mk', eA 0 24 fr'], c)) := by
      intro x y hx hy
      obtain ⟨g', mk', fr', q1, q2⟩ := htg x y hx hy
      refine ⟨g', mk', fr', q1, ?_⟩
      refine xCallWI (N := 1) (v := ((gsA a (bkS a) (bkW a) 4 : Nat) : Int)) (M2 := m_M_steps) (pc2 := 19) (ls2 := [some (eR 1), some (eR 0), some (eI x)]) (st2 := []) (y := m_M_takesGuess) (as := [some (eR 1), some (eR 0), some (eI x), some (eI y)]) (w2 := ([eA 0 964 g, mO P, eA 0 144 mk, eA 0 24 fr], c)) rfl q2 (fun r19 hr19 => ?_)
      refine xSeg (N := 1) (r := some (.inl (some (eI r19)), ([eA 0 964 g', mO P, eA 0 144 mk', eA 0 24 fr'], c))) rfl ?_
      rw [hr19]
    obtain ⟨g', mk', fr', q1, q2⟩ := hfin _ _ rfl rfl
    refine ⟨g', mk', fr', q1, ?_⟩
    refine xLd (N := 3) (n := 964) (i := 4) (F := fun zq => ev m_M_steps 3 [some (eR 1), some (eR 0)] [eI (g zq)] ([eA 0 964 g, mO P, eA 0 144 mk, eA 0 24 fr], c)) (k := 4) rfl (show wr 4 = ((4 : Nat) : Int) by decide) (by omega) ?_
    refine xEqT (N := 1) (x := g 4) (y := 0) (A := ev m_M_steps 6 [some (eR 1), some (eR 0)] [] ([eA 0 964 g, mO P, eA 0 144 mk, eA 0 24 fr], c)) (B := ev m_M_steps 23 [some (eR 1), some (eR 0)] [] ([eA 0 964 g, mO P, eA 0 144 mk, eA 0 24 fr], c)) rfl (wr_id (by omega) (by omega)) (show wr 0 = 0 by decide) (by omega) ?_
    refine xCallI (N := 2) (v := (bkS a : Int)) (M2 := m_M_steps) (pc2 := 7) (ls2 := [some (eR 1), some (eR 0)]) (st2 := []) (y := m_M_best) (as := [some (eR 0)]) (w2 := ([eA 0 964 g, mO P, eA 0 144 mk, eA 0 24 fr], c)) rfl hbe (fun r7 hr7 => ?_)
    refine xCallI (N := 7) (v := (bkW a : Int)) (M2 := m_M_steps) (pc2 := 16) (ls2 := [some (eR 1), some (eR 0), some (eI r7)]) (st2 := [eI r7, eR 0, eR 1]) (y := m_M_bestOf) (as := [some (eR 0), some (eI r7)]) (w2 := ([eA 0 964 g, mO P, eA 0 144 mk, eA 0 24 fr], c)) rfl (hbo r7 hr7) (fun r16 hr16 => ?_)
    rw [hr7, hr16]
    exact q2
  · rw [if_neg h4]
    by_cases h5 : 0 < a 5
    · rw [if_pos h5]
      obtain ⟨g', mk', fr', q1, q2⟩ := n_takesBack (P := P) (mk := mk) (fr := fr) (c := c) hg hI h5
      refine ⟨g', mk', fr', q1, ?_⟩
      refine xLd (N := 3) (n := 964) (i := 4) (F := fun zq => ev m_M_steps 3 [some (eR 1), some (eR 0)] [eI (g zq)] ([eA 0 964 g, mO P, eA 0 144 mk, eA 0 24 fr], c)) (k := 4) rfl (show wr 4 = ((4 : Nat) : Int) by decide) (by omega) ?_
      refine xEqF (N := 1) (x := g 4) (y := 0) (A := ev m_M_steps 6 [some (eR 1), some (eR 0)] [] ([eA 0 964 g, mO P, eA 0 144 mk, eA 0 24 fr], c)) (B := ev m_M_steps 23 [some (eR 1), some (eR 0)] [] ([eA 0 964 g, mO P, eA 0 144 mk, eA 0 24 fr], c)) rfl (wr_id (by omega) (by omega)) (show wr 0 = 0 by decide) (by omega) ?_
      refine xLd (N := 3) (n := 964) (i := 5) (F := fun zq => ev m_M_steps 26 [some (eR 1), some (eR 0)] [eI (g zq)] ([eA 0 964 g, mO P, eA 0 144 mk, eA 0 24 fr], c)) (k := 5) rfl (show wr 5 = ((5 : Nat) : Int) by decide) (by omega) ?_
      refine xLtT (N := 1) (x := 0) (y := g 5) (A := ev m_M_steps 29 [some (eR 1), some (eR 0)] [] ([eA 0 964 g, mO P, eA 0 144 mk, eA 0 24 fr], c)) (B := ev m_M_steps 35 [some (eR 1), some (eR 0)] [] ([eA 0 964 g, mO P, eA 0 144 mk, eA 0 24 fr], c)) rfl (show wr 0 = 0 by decide) (wr_id (by omega) (by omega)) (by omega) ?_
      refine xCallWI (N := 3) (v := ((tbA a 4 : Nat) : Int)) (M2 := m_M_steps) (pc2 := 31) (ls2 := [some (eR 1), some (eR 0)]) (st2 := []) (y := m_M_takesBack) (as := [some (eR 1), some (eR 0)]) (w2 := ([eA 0 964 g, mO P, eA 0 144 mk, eA 0 24 fr], c)) rfl q2 (fun r31 hr31 => ?_)
      refine xSeg (N := 1) (r := some (.inl (some (eI r31)), ([eA 0 964 g', mO P, eA 0 144 mk', eA 0 24 fr'], c))) rfl ?_
      rw [hr31]
    · rw [if_neg h5]
      refine ⟨eUp g 4 3, mk, fr, up_rgi hg rfl, ?_⟩
      rw [up_at]
      refine xLd (N := 3) (n := 964) (i := 4) (F := fun zq => ev m_M_steps 3 [some (eR 1), some (eR 0)] [eI (g zq)] ([eA 0 964 g, mO P, eA 0 144 mk, eA 0 24 fr], c)) (k := 4) rfl (show wr 4 = ((4 : Nat) : Int) by decide) (by omega) ?_
      refine xEqF (N := 1) (x := g 4) (y := 0) (A := ev m_M_steps 6 [some (eR 1), some (eR 0)] [] ([eA 0 964 g, mO P, eA 0 144 mk, eA 0 24 fr], c)) (B := ev m_M_steps 23 [some (eR 1), some (eR 0)] [] ([eA 0 964 g, mO P, eA 0 144 mk, eA 0 24 fr], c)) rfl (wr_id (by omega) (by omega)) (show wr 0 = 0 by decide) (by omega) ?_
      refine xLd (N := 3) (n := 964) (i := 5) (F := fun zq => ev m_M_steps 26 [some (eR 1), some (eR 0)] [eI (g zq)] ([eA 0 964 g, mO P, eA 0 144 mk, eA 0 24 fr], c)) (k := 5) rfl (show wr 5 = ((5 : Nat) : Int) by decide) (by omega) ?_
      refine xLtF (N := 1) (x := 0) (y := g 5) (A := ev m_M_steps 29 [some (eR 1), some (eR 0)] [] ([eA 0 964 g, mO P, eA 0 144 mk, eA 0 24 fr], c)) (B := ev m_M_steps 35 [some (eR 1), some (eR 0)] [] ([eA 0 964 g, mO P, eA 0 144 mk, eA 0 24 fr], c)) rfl (show wr 0 = 0 by decide) (wr_id (by omega) (by omega)) (by omega) ?_
      refine xLd (N := 4) (n := 964) (i := 4) (F := fun zq => ev m_M_steps 39 [some (eR 1), some (eR 0)] [] ([eA 0 964 (eUp g zq 3), mO P, eA 0 144 mk, eA 0 24 fr], c)) (k := 4) rfl (show wr 4 = ((4 : Nat) : Int) by decide) (by omega) ?_
      refine xSeg (N := 2) (r := some (.inl (some (eI 3)), ([eA 0 964 (eUp g 4 3), mO P, eA 0 144 mk, eA 0 24 fr], c))) rfl ?_
      rfl
theorem n_solves {P : Nat → Int} {c : Nat × Nat} {x : Int} {m : Nat} (hx : x = (m : Int)) (hm : m ≤ 200) : ∀ d : Nat, d ≤ m → ∀ (a : eRow) (g mk fr : Nat → Int) (y : Int), rg g a → iA a → y = ((m - d : Nat) : Int) → ∃ g' mk' fr' : Nat → Int, rg g' (sv d a) ∧ ev m_M_solves 2 [some (eR 1), some (eR 0), some (eI x), some (eI y)] [] ([eA 0 964 g, mO P, eA 0 144 mk, eA 0 24 fr], c) = some (.inl (some (eI ((m - d + svc d a : Nat) : Int))), ([eA 0 964 g', mO P, eA 0 144 mk', eA 0 24 fr'], c)) := by
  intro d
  induction d with
  | zero =>
    intro _ a g mk fr y hg hI hy
    refine ⟨g, mk, fr, hg, ?_⟩
    refine xLtF (N := 3) (x := y) (y := x) (A := ev m_M_solves 7 [some (eR 1), some (eR 0), some (eI x), some (eI y)] [] ([eA 0 964 g, mO P, eA 0 144 mk, eA 0 24 fr], c)) (B := ev m_M_solves 28 [some (eR 1), some (eR 0), some (eI x), some (eI y)] [] ([eA 0 964 g, mO P, eA 0 144 mk, eA 0 24 fr], c)) rfl (wr_id (by omega) (by omega)) (wr_id (by omega) (by omega)) (by omega) ?_
    refine xSeg (N := 2) (r := some (.inl (some (eI y)), ([eA 0 964 g, mO P, eA 0 144 mk, eA 0 24 fr], c))) rfl ?_
    rw [hy]
    rfl
  | succ d ih =>
    intro hd a g mk fr y hg hI hy
    have hn := hI.1.1.2.2.2.2
    have hcs := rowRd (V := [eA 0 964 g, mO P, eA 0 144 mk, eA 0 24 fr]) (p := 0) (d := c) (n_canStep (c := (0, 0)) hg hn hI.2.2.2.2.1) rfl rfl
    have e1 : sv (d + 1) a = bif cnS a then sv d (stp a) else a := rfl
    have e2 : svc (d + 1) a = bif cnS a then svc d (stp a) + 1 else 0 := rfl
    cases hc : cnS a with
    | false =>
      rw [hc, cond_false] at e1 e2
      rw [show (bI (decide (0 < a 3 ∧ (a 4 = 0 ∨ a 4 = 2)))) = 0 by rw [show decide (0 < a 3 ∧ (a 4 = 0 ∨ a 4 = 2)) = false from hc]; rfl] at hcs
      refine ⟨g, mk, fr, by rw [e1]; exact hg, ?_⟩
      refine xLtT (N := 3) (x := y) (y := x) (A := ev m_M_solves 7 [some (eR 1), some (eR 0), some (eI x), some (eI y)] [] ([eA 0 964 g, mO P, eA 0 144 mk, eA 0 24 fr], c)) (B := ev m_M_solves 28 [some (eR 1), some (eR 0), some (eI x), some (eI y)] [] ([eA 0 964 g, mO P, eA 0 144 mk, eA 0 24 fr], c)) rfl (wr_id (by omega) (by omega)) (wr_id (by omega) (by omega)) (by omega) ?_
      refine xCall (N := 2) (M2 := m_M_solves) (pc2 := 8) (ls2 := [some (eR 1), some (eR 0), some (eI x), some (eI y)]) (st2 := []) (y := m_M_canStep) (as := [some (eR 0)]) (w2 := ([eA 0 964 g, mO P, eA 0 144 mk, eA 0 24 fr], c)) rfl hcs ?_
      refine xEqT (N := 1) (x := 0) (y := 0) (A := ev m_M_solves 28 [some (eR 1), some (eR 0), some (eI x), some (eI y)] [] ([eA 0 964 g, mO P, eA 0 144 mk, eA 0 24 fr], c)) (B := ev m_M_solves 14 [some (eR 1), some (eR 0), some (eI x), some (eI y)] [] ([eA 0 964 g, mO P, eA 0 144 mk, eA 0 24 fr], c)) rfl (show wr 0 = 0 by decide) (show wr 0 = 0 by decide) (by decide) ?_
      refine xSeg (N := 2) (r := some (.inl (some (eI y)), ([eA 0 964 g, mO P, eA 0 144 mk, eA 0 24 fr], c))) rfl ?_
      rw [hy, e2]
      rfl
    | true =>
      rw [hc, cond_true] at e1 e2
      rw [show (bI (decide (0 < a 3 ∧ (a 4 = 0 ∨ a 4 = 2)))) = 1 by rw [show decide (0 < a 3 ∧ (a 4 = 0 ∨ a 4 = 2)) = true from hc]; rfl] at hcs
      have hI2 := iA_stp hI hc
      have hm4 := hI2.2.2.2.2.1
      obtain ⟨g1, mk1, fr1, s1, s2⟩ := n_steps (P := P) (mk := mk) (fr := fr) (c := c) hg hI hc
      obtain ⟨g', mk', fr', q1, q2⟩ := ih (by omega) (stp a) g1 mk1 fr1 (y + 1) s1 hI2 (by omega)
      refine ⟨g', mk', fr', by rw [e1]; exact q1, ?_⟩
      rw [e2, show m - (d + 1) + (svc d (stp a) + 1) = m - d + svc d (stp a) by omega]
      refine xLtT (N := 3) (x := y) (y := x) (A := ev m_M_solves 7 [some (eR 1), some (eR 0), some (eI x), some (eI y)] [] ([eA 0 964 g, mO P, eA 0 144 mk, eA 0 24 fr], c)) (B := ev m_M_solves 28 [some (eR 1), some (eR 0), some (eI x), some (eI y)] [] ([eA 0 964 g, mO P, eA 0 144 mk, eA 0 24 fr], c)) rfl (wr_id (by omega) (by omega)) (wr_id (by omega) (by omega)) (by omega) ?_
      refine xCall (N := 2) (M2 := m_M_solves) (pc2 := 8) (ls2 := [some (eR 1), some (eR 0), some (eI x), some (eI y)]) (st2 := []) (y := m_M_canStep) (as := [some (eR 0)]) (w2 := ([eA 0 964 g, mO P, eA 0 144 mk, eA 0 24 fr], c)) rfl hcs ?_
      refine xEqF (N := 1) (x := 1) (y := 0) (A := ev m_M_solves 28 [some (eR 1), some (eR 0), some (eI x), some (eI y)] [] ([eA 0 964 g, mO P, eA 0 144 mk, eA 0 24 fr], c)) (B := ev m_M_solves 14 [some (eR 1), some (eR 0), some (eI x), some (eI y)] [] ([eA 0 964 g, mO P, eA 0 144 mk, eA 0 24 fr], c)) rfl (show wr 1 = 1 by decide) (show wr 0 = 0 by decide) (by decide) ?_
      refine xCallWI (N := 3) (v := ((stp a 4 : Nat) : Int)) (M2 := m_M_solves) (pc2 := 16) (ls2 := [some (eR 1), some (eR 0), some (eI x), some (eI y)]) (st2 := []) (y := m_M_steps) (as := [some (eR 1), some (eR 0)]) (w2 := ([eA 0 964 g, mO P, eA 0 144 mk, eA 0 24 fr], c)) rfl s2 (fun r16 hr16 => ?_)
      refine xLtF (N := 1) (x := r16) (y := 0) (A := ev m_M_solves 28 [some (eR 1), some (eR 0), some (eI x), some (eI y)] [] ([eA 0 964 g1, mO P, eA 0 144 mk1, eA 0 24 fr1], c)) (B := ev m_M_solves 22 [some (eR 1), some (eR 0), some (eI x), some (eI y)] [] ([eA 0 964 g1, mO P, eA 0 144 mk1, eA 0 24 fr1], c)) rfl (wr_id (by omega) (by omega)) (show wr 0 = 0 by decide) (by omega) ?_
      refine xSeg (N := 2) (r := ev m_M_solves 2 [some (eR 1), some (eR 0), some (eI x), some (eI (y + 1))] [] ([eA 0 964 g1, mO P, eA 0 144 mk1, eA 0 24 fr1], c)) rfl ?_
      exact q2
theorem n_solves0 {g mk fr P : Nat → Int} {a : eRow} {c : Nat × Nat} {x : Int} {m : Nat} (hg : rg g a) (hI : iA a) (hx : x = (m : Int)) (hm : m ≤ 200) : ∃ g' mk' fr' : Nat → Int, rg g' (sv m a) ∧ ev m_M_solves 0 [some (eR 1), some (eR 0), some (eI x)] [] ([eA 0 964 g, mO P, eA 0 144 mk, eA 0 24 fr], c) = some (.inl (some (eI ((svc m a : Nat) : Int))), ([eA 0 964 g', mO P, eA 0 144 mk', eA 0 24 fr'], c)) := by
  obtain ⟨g', mk', fr', q1, q2⟩ := n_solves (P := P) (c := c) hx hm m (Nat.le_refl _) a g mk fr 0 hg hI (by omega)
  rw [Nat.sub_self, Nat.zero_add] at q2
  refine ⟨g', mk', fr', q1, ?_⟩
  refine xSeg (N := 2) (r := ev m_M_solves 2 [some (eR 1), some (eR 0), some (eI x), some (eI 0)] [] ([eA 0 964 g, mO P, eA 0 144 mk, eA 0 24 fr], c)) rfl ?_
  exact q2
/-! the class steps -/
theorem c_mS {c : Nat × Nat} {x : Int} {m : Nat} (hx : x = (m : Int)) (hm : m ≤ 200) : ∀ d : Nat, d ≤ m → ∀ (a : eRow) (S : wS) (y : Int), wA S a → iA a → y = ((m - d : Nat) : Int) → ∃ S' : wS, wA S' (sv d a) ∧ ev m_W_makeSteps 2 [some (eR 0), some (eI x), some (eI y)] [] (wC S, c) = some (.inl (some (eI ((m - d + svc d a : Nat) : Int))), (wC S', c)) := by
  intro d
  induction d with
  | zero =>
    intro _ a S y hA hI hy
    refine ⟨S, hA, ?_⟩
    refine xLtF (N := 3) (x := y) (y := x) (A := ev m_W_makeSteps 7 [some (eR 0), some (eI x), some (eI y)] [] (wC S, c)) (B := ev m_W_makeSteps 81 [some (eR 0), some (eI x), some (eI y)] [] (wC S, c)) rfl (wr_id (by omega) (by omega)) (wr_id (by omega) (by omega)) (by omega) ?_
    refine xSeg (N := 2) (r := some (.inl (some (eI y)), (wC S, c))) rfl ?_
    rw [hy]
    rfl
  | succ d ih =>
    intro hd a S y hA hI hy
    have hn := hI.1.1.2.2.2.2
    have h44 := hI.2.2.2.2.1
    have g4 := hA.2.2.2
    have gn := hA.1.1.1.2.2
    have gd := hA.2.2.1.1.1
    have h24 := iT_24 hn hI.2.2.2.1
    have hcs := c_canStep (c := c) gn hn g4 h44
    have e1 : sv (d + 1) a = bif cnS a then sv d (stp a) else a := rfl
    have e2 : svc (d + 1) a = bif cnS a then svc d (stp a) + 1 else 0 := rfl
    cases hc : cnS a with
    | false =>
      rw [hc, cond_false] at e1 e2
      rw [show (bI (decide (0 < a 3 ∧ (a 4 = 0 ∨ a 4 = 2)))) = 0 by rw [show decide (0 < a 3 ∧ (a 4 = 0 ∨ a 4 = 2)) = false from hc]; rfl] at hcs
      refine ⟨S, by rw [e1]; exact hA, ?_⟩
      refine xLtT (N := 3) (x := y) (y := x) (A := ev m_W_makeSteps 7 [some (eR 0), some (eI x), some (eI y)] [] (wC S, c)) (B := ev m_W_makeSteps 81 [some (eR 0), some (eI x), some (eI y)] [] (wC S, c)) rfl (wr_id (by omega) (by omega)) (wr_id (by omega) (by omega)) (by omega) ?_
      refine xCallW (N := 2) (M2 := m_W_makeSteps) (pc2 := 8) (ls2 := [some (eR 0), some (eI x), some (eI y)]) (st2 := []) (y := m_W_canStep) (as := [some (eR 0)]) (w2 := (wC S, c)) rfl hcs ?_
      refine xEqT (N := 1) (x := 0) (y := 0) (A := ev m_W_makeSteps 81 [some (eR 0), some (eI x), some (eI y)] [] (wC S, c)) (B := ev m_W_makeSteps 14 [some (eR 0), some (eI x), some (eI y)] [] (wC S, c)) rfl (show wr 0 = 0 by decide) (show wr 0 = 0 by decide) (by decide) ?_
      refine xSeg (N := 2) (r := some (.inl (some (eI y)), (wC S, c))) rfl ?_
      rw [hy, e2]
      rfl
    | true =>
      have h := of_decide_eq_true hc
      rw [hc, cond_true] at e1 e2
      rw [show (bI (decide (0 < a 3 ∧ (a 4 = 0 ∨ a 4 = 2)))) = 1 by rw [show decide (0 < a 3 ∧ (a 4 = 0 ∨ a 4 = 2)) = true from hc]; rfl] at hcs
      have hI2 := iA_stp hI hc
      rw [e1, e2, show m - (d + 1) + (svc d (stp a) + 1) = m - d + svc d (stp a) by omega]
      have hgo : ∀ k, k < a 3 → S 15 k = (op a k : Int) ∧ op a k < 1073741824 := fun k hk => ⟨hA.2.2.1.2.1 k hk, (hI.2.2.1 k hk).1⟩
      have hbs := c_findBestSlot (c := c) gn hn hgo
      have hsb := bsA_1b (f := fun k => pc 30 (op a k)) (k := a 3)
      unfold stp at hI2 ⊢
      by_cases h4 : a 4 = 0
      · rw [if_pos h4] at hI2 ⊢
        obtain ⟨b1, b2, b3, b4, b5⟩ := best_ok hI h4 h.1
        have hm30 := hI.2.1.1
        have hbwt := (hI.2.2.1 _ b2).2 _ b5
        rw [b1] at hbs
        have hbw := fun x hx => c_findBestWord (S := S) (c := c) (x := x) (k := bkS a) (m := a 2) (o := op a) (wl := wl a) (hd := hold a) (f := lt a) hx (by omega) hA.2.1.1 hm30 (hgo _ b2).1 (hgo _ b2).2 (fun w hw => ⟨hA.2.1.2.1 w hw, (hI.2.1.2 w hw).2.1⟩) (fun w p hw hp => ⟨hA.2.1.2.2.1 w p hw hp, lt_26 hI.2.1 hw hp⟩) (fun l hl => ⟨hA.2.1.2.2.2 l hl, by have := hold_le a l; omega⟩)
        have hbw2 : ∀ x, x = (bkS a : Int) → ev m_W_findBestWord 0 [some (eR 0), some (eI x)] [] (wC S, c) = some (.inl (some (eI (bkW a : Int))), (wC S, c)) := fun x hx => by
          have h9 := hbw x hx
          rw [show (bwA (op a (bkS a)).testBit (fun w => wpz (hold a) (wl a w) (lt a w)) (a 2)).1 = (bkW a : Int) from b4] at h9
          exact h9
        obtain ⟨p1, p2, p3, p4⟩ := ps_all hI.1 hI.2.1 hI.2.2.1 hI.2.2.2.1 b2 b3 b5
        have hr5 := iT_room hn hI.2.2.2.1 b2 b3
        have hpu : ∃ S1 : wS, (wG S1 (psA a (bkS a) (bkW a)) ∧ wV S1 (psA a (bkS a) (bkW a)) ∧ wP S1 (psA a (bkS a) (bkW a))) ∧ ∀ x y : Int, x = (bkS a : Int) → y = (bkW a : Int) → ev m_W_pushGuess 0 [some (eR 0), some (eI x), some (eI y)] [] (wC S, c) = some (.inl none, (wC S1, c)) := by
          obtain ⟨S1, q, q4⟩ := c_push (c := c) hA.1 hA.2.1 hA.2.2.1 hI.1 hI.2.1 (by omega) rfl rfl b2 (show bkW a < 30 by omega)
          exact ⟨S1, q, fun x y hx hy => by rw [hx, hy]; exact q4⟩
        obtain ⟨S1, ⟨q1, q2, q3⟩, q4⟩ := hpu
        obtain ⟨S2, q5, q6⟩ := c_nw (c := c) q1 q2 q3 p1 p2 p3
        obtain ⟨S', q7, q8⟩ := ih (by omega) (gsA a (bkS a) (bkW a)) S2 (y + 1) q5 hI2 (by omega)
        refine ⟨S', q7, ?_⟩
        refine xLtT (N := 3) (x := y) (y := x) (A := ev m_W_makeSteps 7 [some (eR 0), some (eI x), some (eI y)] [] (wC S, c)) (B := ev m_W_makeSteps 81 [some (eR 0), some (eI x), some (eI y)] [] (wC S, c)) rfl (wr_id (by omega) (by omega)) (wr_id (by omega) (by omega)) (by omega) ?_
        refine xCallW (N := 2) (M2 := m_W_makeSteps) (pc2 := 8) (ls2 := [some (eR 0), some (eI x), some (eI y)]) (st2 := []) (y := m_W_canStep) (as := [some (eR 0)]) (w2 := (wC S, c)) rfl hcs ?_
        refine xEqF (N := 1) (x := 1) (y := 0) (A := ev m_W_makeSteps 81 [some (eR 0), some (eI x), some (eI y)] [] (wC S, c)) (B := ev m_W_makeSteps 14 [some (eR 0), some (eI x), some (eI y)] [] (wC S, c)) rfl (show wr 1 = 1 by decide) (show wr 0 = 0 by decide) (by decide) ?_
        refine xEqF (N := 5) (x := S 0 3) (y := 2) (A := ev m_W_makeSteps 25 [some (eR 0), some (eI x), some (eI (y + 1))] [] (wC S, c)) (B := ev m_W_makeSteps 40 [some (eR 0), some (eI x), some (eI (y + 1))] [] (wC S, c)) rfl (wr_id (by omega) (by omega)) (show wr 2 = 2 by decide) (by omega) ?_
        refine xCallWI (N := 2) (v := (bkS a : Int)) (M2 := m_W_makeSteps) (pc2 := 41) (ls2 := [some (eR 0), some (eI x), some (eI (y + 1))]) (st2 := []) (y := m_W_findBestSlot) (as := [some (eR 0)]) (w2 := (wC S, c)) rfl hbs (fun r41 hr41 => ?_)
        refine xEqT (N := 4) (x := S 0 3) (y := 0) (A := ev m_W_makeSteps 52 [some (eR 0), some (eI x), some (eI (y + 1)), some (eI r41)] [] (wC S, c)) (B := ev m_W_makeSteps 70 [some (eR 0), some (eI x), some (eI (y + 1)), some (eI r41)] [] (wC S, c)) rfl (wr_id (by omega) (by omega)) (show wr 0 = 0 by decide) (by omega) ?_
        refine xEqF (N := 3) (x := r41) (y := (-1)) (A := ev m_W_makeSteps 70 [some (eR 0), some (eI x), some (eI (y + 1)), some (eI r41)] [] (wC S, c)) (B := ev m_W_makeSteps 57 [some (eR 0), some (eI x), some (eI (y + 1)), some (eI r41)] [] (wC S, c)) rfl (wr_id (by omega) (by omega)) (show wr (-1) = (-1) by decide) (by omega) ?_
        refine xCallWI (N := 5) (v := (bkW a : Int)) (M2 := m_W_makeSteps) (pc2 := 61) (ls2 := [some (eR 0), some (eI x), some (eI (y + 1)), some (eI r41)]) (st2 := [eI r41, eR 0]) (y := m_W_findBestWord) (as := [some (eR 0), some (eI r41)]) (w2 := (wC S, c)) rfl (hbw2 r41 hr41) (fun r61 hr61 => ?_)
        refine xCallWV (N := 1) (M2 := m_W_makeSteps) (pc2 := 64) (ls2 := [some (eR 0), some (eI x), some (eI (y + 1)), some (eI r41)]) (st2 := []) (y := m_W_pushGuess) (as := [some (eR 0), some (eI r41), some (eI r61)]) (w2 := (wC S, c)) rfl (q4 r41 r61 hr41 hr61) ?_
        refine xCallWV (N := 3) (M2 := m_W_makeSteps) (pc2 := 75) (ls2 := [some (eR 0), some (eI x), some (eI (y + 1)), some (eI r41)]) (st2 := []) (y := m_W_narrow) (as := [some (eR 0)]) (w2 := (wC S1, c)) rfl q6 ?_
        refine xSeg (N := 1) (r := ev m_W_makeSteps 2 [some (eR 0), some (eI x), some (eI (y + 1)), some (eI r41)] [] (wC S2, c)) rfl ?_
        refine xTk 3 (by rfl) rfl ?_
        exact q8
      · rw [if_neg h4] at hI2 ⊢
        have h42 : a 4 = 2 := by omega
        by_cases h5 : 0 < a 5
        · rw [if_pos h5] at hI2 ⊢
          obtain ⟨p1, p2, p3, p4⟩ := pp_all hI.1 hI.2.1 hI.2.2.2.1 h5
          obtain ⟨S1, ⟨q1, q2, q3⟩, q4⟩ := c_pop (c := c) hA.1 hA.2.1 hA.2.2.1 hI.1 hI.2.1 hI.2.2.2.1 h5 h24
          obtain ⟨S2, q5, q6⟩ := c_nw (c := c) q1 q2 q3 p1 p2 p3
          obtain ⟨S', q7, q8⟩ := ih (by omega) (tbA a) S2 (y + 1) q5 hI2 (by omega)
          refine ⟨S', q7, ?_⟩
          refine xLtT (N := 3) (x := y) (y := x) (A := ev m_W_makeSteps 7 [some (eR 0), some (eI x), some (eI y)] [] (wC S, c)) (B := ev m_W_makeSteps 81 [some (eR 0), some (eI x), some (eI y)] [] (wC S, c)) rfl (wr_id (by omega) (by omega)) (wr_id (by omega) (by omega)) (by omega) ?_
          refine xCallW (N := 2) (M2 := m_W_makeSteps) (pc2 := 8) (ls2 := [some (eR 0), some (eI x), some (eI y)]) (st2 := []) (y := m_W_canStep) (as := [some (eR 0)]) (w2 := (wC S, c)) rfl hcs ?_
          refine xEqF (N := 1) (x := 1) (y := 0) (A := ev m_W_makeSteps 81 [some (eR 0), some (eI x), some (eI y)] [] (wC S, c)) (B := ev m_W_makeSteps 14 [some (eR 0), some (eI x), some (eI y)] [] (wC S, c)) rfl (show wr 1 = 1 by decide) (show wr 0 = 0 by decide) (by decide) ?_
          refine xEqT (N := 5) (x := S 0 3) (y := 2) (A := ev m_W_makeSteps 25 [some (eR 0), some (eI x), some (eI (y + 1))] [] (wC S, c)) (B := ev m_W_makeSteps 40 [some (eR 0), some (eI x), some (eI (y + 1))] [] (wC S, c)) rfl (wr_id (by omega) (by omega)) (show wr 2 = 2 by decide) (by omega) ?_
          refine xEqF (N := 3) (x := S 0 4) (y := 0) (A := ev m_W_makeSteps 32 [some (eR 0), some (eI x), some (eI (y + 1))] [] (wC S, c)) (B := ev m_W_makeSteps 40 [some (eR 0), some (eI x), some (eI (y + 1))] [] (wC S, c)) rfl (wr_id (by omega) (by omega)) (show wr 0 = 0 by decide) (by omega) ?_
          refine xCallWI (N := 2) (v := (bsA (fun k => pc 30 (op a k)) (a 3)).1) (M2 := m_W_makeSteps) (pc2 := 41) (ls2 := [some (eR 0), some (eI x), some (eI (y + 1))]) (st2 := []) (y := m_W_findBestSlot) (as := [some (eR 0)]) (w2 := (wC S, c)) rfl hbs (fun r41 hr41 => ?_)
          refine xEqF (N := 4) (x := S 0 3) (y := 0) (A := ev m_W_makeSteps 52 [some (eR 0), some (eI x), some (eI (y + 1)), some (eI r41)] [] (wC S, c)) (B := ev m_W_makeSteps 70 [some (eR 0), some (eI x), some (eI (y + 1)), some (eI r41)] [] (wC S, c)) rfl (wr_id (by omega) (by omega)) (show wr 0 = 0 by decide) (by omega) ?_
          refine xCallWV (N := 2) (M2 := m_W_makeSteps) (pc2 := 71) (ls2 := [some (eR 0), some (eI x), some (eI (y + 1)), some (eI r41)]) (st2 := []) (y := m_W_popGuess) (as := [some (eR 0)]) (w2 := (wC S, c)) rfl q4 ?_
          refine xCallWV (N := 2) (M2 := m_W_makeSteps) (pc2 := 75) (ls2 := [some (eR 0), some (eI x), some (eI (y + 1)), some (eI r41)]) (st2 := []) (y := m_W_narrow) (as := [some (eR 0)]) (w2 := (wC S1, c)) rfl q6 ?_
          refine xSeg (N := 1) (r := ev m_W_makeSteps 2 [some (eR 0), some (eI x), some (eI (y + 1)), some (eI r41)] [] (wC S2, c)) rfl ?_
          refine xTk 3 (by rfl) rfl ?_
          exact q8
        · rw [if_neg h5] at hI2 ⊢
          have hc3 : cnS (up a 4 3) = false := by
            unfold cnS
            rw [up_at]
            exact decide_eq_false (by omega)
          have s0 : sv d (up a 4 3) = up a 4 3 := by
            cases d with
            | zero => rfl
            | succ d => show (bif cnS (up a 4 3) then sv d (stp (up a 4 3)) else up a 4 3) = _; rw [hc3]; rfl
          have s1 : svc d (up a 4 3) = 0 := by
            cases d with
            | zero => rfl
            | succ d => show (bif cnS (up a 4 3) then svc d (stp (up a 4 3)) + 1 else 0) = _; rw [hc3]; rfl
          rw [s0, s1]
          have hTb : ∀ b, b ≠ 0 → (uI S 0 3 3) b = S b := fun b hb => uI_ne hb
          refine ⟨uI S 0 3 3, ⟨wG_sm up4_sm hI.1 (wG_S (fun b hb => hTb b (by omega)) hA.1), wV_sm up4_sm hI.2.1 (wV_S (fun b hb => hTb b (by omega)) hA.2.1), ⟨?_, fun k hk => ?_, fun l hl => ?_⟩, ?_⟩, ?_⟩
          · rw [up_ne (by omega), up_ne (by omega), up_ne (by omega), up_ne (by omega)]
            exact hA.2.2.1.1
          · rw [up_ne (by omega)] at hk
            rw [up_op (by omega)]
            exact hA.2.2.1.2.1 k hk
          · rw [up_ne (by omega)] at hl
            omega
          · rw [up_at]; rfl
          · refine xLtT (N := 3) (x := y) (y := x) (A := ev m_W_makeSteps 7 [some (eR 0), some (eI x), some (eI y)] [] (wC S, c)) (B := ev m_W_makeSteps 81 [some (eR 0), some (eI x), some (eI y)] [] (wC S, c)) rfl (wr_id (by omega) (by omega)) (wr_id (by omega) (by omega)) (by omega) ?_
            refine xCallW (N := 2) (M2 := m_W_makeSteps) (pc2 := 8) (ls2 := [some (eR 0), some (eI x), some (eI y)]) (st2 := []) (y := m_W_canStep) (as := [some (eR 0)]) (w2 := (wC S, c)) rfl hcs ?_
            refine xEqF (N := 1) (x := 1) (y := 0) (A := ev m_W_makeSteps 81 [some (eR 0), some (eI x), some (eI y)] [] (wC S, c)) (B := ev m_W_makeSteps 14 [some (eR 0), some (eI x), some (eI y)] [] (wC S, c)) rfl (show wr 1 = 1 by decide) (show wr 0 = 0 by decide) (by decide) ?_
            refine xEqT (N := 5) (x := S 0 3) (y := 2) (A := ev m_W_makeSteps 25 [some (eR 0), some (eI x), some (eI (y + 1))] [] (wC S, c)) (B := ev m_W_makeSteps 40 [some (eR 0), some (eI x), some (eI (y + 1))] [] (wC S, c)) rfl (wr_id (by omega) (by omega)) (show wr 2 = 2 by decide) (by omega) ?_
            refine xEqT (N := 3) (x := S 0 4) (y := 0) (A := ev m_W_makeSteps 32 [some (eR 0), some (eI x), some (eI (y + 1))] [] (wC S, c)) (B := ev m_W_makeSteps 40 [some (eR 0), some (eI x), some (eI (y + 1))] [] (wC S, c)) rfl (wr_id (by omega) (by omega)) (show wr 0 = 0 by decide) (by omega) ?_
            refine xSeg (N := 6) (r := some (.inl (some (eI (y + 1))), (wC (uI S 0 3 3), c))) rfl ?_
            rw [show y + 1 = ((m - d + 0 : Nat) : Int) by omega]
theorem c_makeSteps {S : wS} {c : Nat × Nat} {a : eRow} {x : Int} {m : Nat} (hA : wA S a) (hI : iA a) (hx : x = (m : Int)) (hm : m ≤ 200) : ∃ S' : wS, wA S' (sv m a) ∧ ev m_W_makeSteps 0 [some (eR 0), some (eI x)] [] (wC S, c) = some (.inl (some (eI ((svc m a : Nat) : Int))), (wC S', c)) := by
  obtain ⟨S', q1, q2⟩ := c_mS (c := c) hx hm m (Nat.le_refl _) a S 0 hA hI (by omega)
  rw [Nat.sub_self, Nat.zero_add] at q2
  refine ⟨S', q1, ?_⟩
  refine xSeg (N := 2) (r := ev m_W_makeSteps 2 [some (eR 0), some (eI x), some (eI 0)] [] (wC S, c)) rfl ?_
  exact q2
