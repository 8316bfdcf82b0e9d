/-! A number is spelled. -/
theorem dN_0 {d q : Nat} (h : q < 32 ^ (d + 1)) : dN (d + 1) q = 0 ↔ q = 0 := by
  rw [(dN_step h).1]
  constructor
  · intro h1
    by_cases hq : q = 0
    · exact hq
    · rw [if_neg hq] at h1; omega
  · intro h1
    rw [if_pos h1]
theorem dN_6 {q : Nat} (h : q < 32 ^ 6) : dN 7 q ≤ 6 := by
  rw [(dN_st h).1]
  exact dN_le
set_option maxRecDepth 100000
theorem c_spell {t : Nat → Int} {c : Nat × Nat} {x ln : Int} {cd : Nat} (hx : x = (cd : Int)) (h : cd < 1073741824) : ∃ t' : Nat → Int, (vN 7 cd = true → ∀ p, p < dN 7 cd → t' p = ((96 + cd / 32 ^ (dN 7 cd - 1 - p) % 32 : Nat) : Int)) ∧ ev m_I_spell 0 [some (eR 0), some (eI x)] [] ([eO 2 [eSt 19, eI ln, eR 1], eA 0 6 t], c) = some (.inl (some (eI ((bif vN 7 cd then dN 7 cd else 0 : Nat) : Int))), ([eO 2 [eSt 19, eI ln, eR 1], eA 0 6 t'], c)) := by
  have h6 : cd < 32 ^ 6 := Nat.lt_of_lt_of_le h (by decide)
  have h7 : cd < 32 ^ 7 := Nat.lt_of_lt_of_le h (by decide)
  have hl : ∀ j : Nat, j ≤ 6 → ∀ (t : Nat → Int) (s v : Int), s = ((dN 7 (cd / 32 ^ j) : Nat) : Int) → v = (j : Int) - 1 → vN 7 (cd / 32 ^ j) = true → dN 7 (cd / 32 ^ j) + j ≤ 6 → (∀ p, p < dN 7 (cd / 32 ^ j) → t p = ((96 + cd / 32 ^ j / 32 ^ (dN 7 (cd / 32 ^ j) - 1 - p) % 32 : Nat) : Int)) → ∃ t' : Nat → Int, (vN 7 cd = true → ∀ p, p < dN 7 cd → t' p = ((96 + cd / 32 ^ (dN 7 cd - 1 - p) % 32 : Nat) : Int)) ∧ ev m_I_spell 13 [some (eR 0), some (eI x), some (eI s), some (eI v)] [] ([eO 2 [eSt 19, eI ln, eR 1], eA 0 6 t], c) = some (.inl (some (eI ((bif vN 7 cd then dN 7 cd else 0 : Nat) : Int))), ([eO 2 [eSt 19, eI ln, eR 1], eA 0 6 t'], c)) := by
    intro j
    induction j with
    | zero =>
      intro hj t s v hs hv hok hd ht
      rw [Nat.pow_zero, Nat.div_one] at hs hok hd ht
      refine ⟨t, fun _ p hp => ht p hp, ?_⟩
      rw [hok, cond_true, ← hs]
      refine xLtT (N := 2) (x := v) (y := 0) (A := ev m_I_spell 90 [some (eR 0), some (eI x), some (eI s), some (eI v)] [] ([eO 2 [eSt 19, eI ln, eR 1], eA 0 6 t], c)) (B := ev m_I_spell 17 [some (eR 0), some (eI x), some (eI s), some (eI v)] [] ([eO 2 [eSt 19, eI ln, eR 1], eA 0 6 t], c)) rfl (wr_id (by omega) (by omega)) (show wr 0 = 0 by decide) (by omega) ?_
      refine xSeg (N := 2) (r := some (.inl (some (eI s)), ([eO 2 [eSt 19, eI ln, eR 1], eA 0 6 t], c))) rfl ?_
      rfl
    | succ j ih =>
      intro hj t s v hs hv hok hd ht
      have hq2 : cd / 32 ^ (j + 1) = cd / 32 ^ j / 32 := by rw [Nat.pow_succ, Nat.div_div_eq_div_mul]
      rw [hq2] at hs hok hd ht
      have hQl : cd / 32 ^ j ≤ cd := Nat.div_le_self _ _
      have hQs : bUshr x (5 * v) = ((cd / 32 ^ j : Nat) : Int) := by
        rw [hx, show 5 * v = ((5 * j : Nat) : Int) by omega, bUshr_n (by omega) (by omega), Nat.shiftRight_eq_div_pow, Nat.pow_mul]
      have hvd : vN 7 cd = true → vN 7 (cd / 32 ^ j) = true := fun hc => vN_divp h7 hc j
      have ih2 := ih (by omega)
      generalize hQ : cd / 32 ^ j = Q at hs hok hd ht hQl hQs hvd ih2
      have hQ7 : Q < 32 ^ 7 := Nat.lt_of_le_of_lt hQl h7
      have hQd : Q / 32 < 32 ^ 7 := Nat.lt_of_le_of_lt (Nat.div_le_self _ _) hQ7
      have hand : bAnd (bUshr x (5 * v)) 31 = ((Q % 32 : Nat) : Int) := by rw [hQs, show (31 : Int) = ((31 : Nat) : Int) from rfl, bAnd_n (by omega), show (31 : Nat) = 2 ^ 5 - 1 from rfl, Nat.and_two_pow_sub_one_eq_mod]
      have k1 : dN 7 Q = (if Q = 0 then 0 else dN 7 (Q / 32) + 1) := (dN_step (d := 6) hQ7).1
      have k2 : vN 7 Q = (decide (Q = 0) || (decide (1 ≤ Q % 32 ∧ Q % 32 ≤ 26) && vN 7 (Q / 32))) := (dN_step (d := 6) hQ7).2
      have hz : dN 7 (Q / 32) = 0 ↔ Q / 32 = 0 := dN_0 (d := 6) hQd
      -- a leading nothing
      have hlead : Q = 0 → ∃ t' : Nat → Int, (vN 7 cd = true → ∀ p, p < dN 7 cd → t' p = ((96 + cd / 32 ^ (dN 7 cd - 1 - p) % 32 : Nat) : Int)) ∧ ev m_I_spell 13 [some (eR 0), some (eI x), some (eI s), some (eI (v + -1))] [] ([eO 2 [eSt 19, eI ln, eR 1], eA 0 6 t], c) = some (.inl (some (eI ((bif vN 7 cd then dN 7 cd else 0 : Nat) : Int))), ([eO 2 [eSt 19, eI ln, eR 1], eA 0 6 t'], c)) := by
        intro h0
        rw [if_pos h0] at k1
        refine ih2 t s (v + -1) (by rw [k1, hs, hz.mpr (by omega)]) (by omega) (by rw [k2, decide_eq_true h0]; rfl) (by omega) (fun p hp => by omega)
      have hbad : Q ≠ 0 → ¬(1 ≤ Q % 32 ∧ Q % 32 ≤ 26) → vN 7 cd = false := by
        intro h0 h1
        cases hb : vN 7 cd with
        | false => rfl
        | true =>
          have h2 := hvd hb
          rw [k2, decide_eq_false h0, decide_eq_false h1] at h2
          exact absurd h2 Bool.false_ne_true
      have hgood : Q ≠ 0 → (1 ≤ Q % 32 ∧ Q % 32 ≤ 26) → ∀ u : Int, u = ((96 + Q % 32 : Nat) : Int) → ∃ t' : Nat → Int, (vN 7 cd = true → ∀ p, p < dN 7 cd → t' p = ((96 + cd / 32 ^ (dN 7 cd - 1 - p) % 32 : Nat) : Int)) ∧ ev m_I_spell 13 [some (eR 0), some (eI x), some (eI (s + 1)), some (eI (v + -1))] [] ([eO 2 [eSt 19, eI ln, eR 1], eA 0 6 (eUp t (dN 7 (Q / 32)) u)], c) = some (.inl (some (eI ((bif vN 7 cd then dN 7 cd else 0 : Nat) : Int))), ([eO 2 [eSt 19, eI ln, eR 1], eA 0 6 t'], c)) := by
        intro h0 h1 u hu
        rw [if_neg h0] at k1
        refine ih2 _ (s + 1) (v + -1) (by rw [k1, hs]; omega) (by omega) (by rw [k2, decide_eq_true h1, hok]; exact Bool.or_true _) (by omega) (fun p hp => ?_)
        rw [k1] at hp ⊢
        by_cases hpe : p = dN 7 (Q / 32)
        · rw [hpe, eUp_at, hu, show dN 7 (Q / 32) + 1 - 1 - dN 7 (Q / 32) = 0 by omega, Nat.pow_zero, Nat.div_one]
        · rw [eUp_ne hpe, ht p (by omega), show dN 7 (Q / 32) + 1 - 1 - p = (dN 7 (Q / 32) - 1 - p) + 1 by omega, Nat.pow_succ, Nat.mul_comm (32 ^ _) 32, ← Nat.div_div_eq_div_mul]
      generalize dN 7 (Q / 32) = m at hs hd hz hgood
      by_cases h0 : Q = 0
      · obtain ⟨t', q1, q2⟩ := hlead h0
        refine ⟨t', q1, ?_⟩
        have hm0 : m = 0 := hz.mpr (by omega)
        refine xLtF (N := 2) (x := v) (y := 0) (A := ev m_I_spell 90 [some (eR 0), some (eI x), some (eI s), some (eI v)] [] ([eO 2 [eSt 19, eI ln, eR 1], eA 0 6 t], c)) (B := ev m_I_spell 17 [some (eR 0), some (eI x), some (eI s), some (eI v)] [] ([eO 2 [eSt 19, eI ln, eR 1], eA 0 6 t], c)) rfl (wr_id (by omega) (by omega)) (show wr 0 = 0 by decide) (by omega) ?_
        refine xTop (N := 7) (pc2 := 25) (ls2 := [some (eR 0), some (eI x), some (eI s), some (eI v)]) (a := bAnd (bUshr x (5 * v)) 31) (b := ((Q % 32 : Nat) : Int)) (st2 := []) (w2 := ([eO 2 [eSt 19, eI ln, eR 1], eA 0 6 t], c)) rfl hand (fun u hu => ?_)
        refine xEqT (N := 3) (x := u) (y := 0) (A := ev m_I_spell 32 [some (eR 0), some (eI x), some (eI s), some (eI v), some (eI u)] [] ([eO 2 [eSt 19, eI ln, eR 1], eA 0 6 t], c)) (B := ev m_I_spell 40 [some (eR 0), some (eI x), some (eI s), some (eI v), some (eI u)] [] ([eO 2 [eSt 19, eI ln, eR 1], eA 0 6 t], c)) rfl (wr_id (by omega) (by omega)) (show wr 0 = 0 by decide) (by omega) ?_
        refine xEqT (N := 2) (x := s) (y := 0) (A := ev m_I_spell 36 [some (eR 0), some (eI x), some (eI s), some (eI v), some (eI u)] [] ([eO 2 [eSt 19, eI ln, eR 1], eA 0 6 t], c)) (B := ev m_I_spell 40 [some (eR 0), some (eI x), some (eI s), some (eI v), some (eI u)] [] ([eO 2 [eSt 19, eI ln, eR 1], eA 0 6 t], c)) rfl (wr_id (by omega) (by omega)) (show wr 0 = 0 by decide) (by omega) ?_
        refine xEqF (N := 5) (x := 1) (y := 0) (A := ev m_I_spell 48 [some (eR 0), some (eI x), some (eI s), some (eI v), some (eI u), some (eI 1)] [] ([eO 2 [eSt 19, eI ln, eR 1], eA 0 6 t], c)) (B := ev m_I_spell 63 [some (eR 0), some (eI x), some (eI s), some (eI v), some (eI u), some (eI 1)] [] ([eO 2 [eSt 19, eI ln, eR 1], eA 0 6 t], c)) rfl (show wr 1 = 1 by decide) (show wr 0 = 0 by decide) (by decide) ?_
        refine xEqF (N := 2) (x := 1) (y := 0) (A := ev m_I_spell 68 [some (eR 0), some (eI x), some (eI s), some (eI v), some (eI u), some (eI 1)] [] ([eO 2 [eSt 19, eI ln, eR 1], eA 0 6 t], c)) (B := ev m_I_spell 84 [some (eR 0), some (eI x), some (eI s), some (eI v), some (eI u), some (eI 1)] [] ([eO 2 [eSt 19, eI ln, eR 1], eA 0 6 t], c)) rfl (show wr 1 = 1 by decide) (show wr 0 = 0 by decide) (by decide) ?_
        refine xSeg (N := 2) (r := ev m_I_spell 13 [some (eR 0), some (eI x), some (eI s), some (eI (v + (-1))), some (eI u), some (eI 1)] [] ([eO 2 [eSt 19, eI ln, eR 1], eA 0 6 t], c)) rfl ?_
        refine xTk 4 (by rfl) rfl ?_
        exact q2
      · by_cases h1 : 1 ≤ Q % 32 ∧ Q % 32 ≤ 26
        · obtain ⟨t', q1, q2⟩ := hgood h0 h1 _ rfl
          refine ⟨t', q1, ?_⟩
          refine xLtF (N := 2) (x := v) (y := 0) (A := ev m_I_spell 90 [some (eR 0), some (eI x), some (eI s), some (eI v)] [] ([eO 2 [eSt 19, eI ln, eR 1], eA 0 6 t], c)) (B := ev m_I_spell 17 [some (eR 0), some (eI x), some (eI s), some (eI v)] [] ([eO 2 [eSt 19, eI ln, eR 1], eA 0 6 t], c)) rfl (wr_id (by omega) (by omega)) (show wr 0 = 0 by decide) (by omega) ?_
          refine xTop (N := 7) (pc2 := 25) (ls2 := [some (eR 0), some (eI x), some (eI s), some (eI v)]) (a := bAnd (bUshr x (5 * v)) 31) (b := ((Q % 32 : Nat) : Int)) (st2 := []) (w2 := ([eO 2 [eSt 19, eI ln, eR 1], eA 0 6 t], c)) rfl hand (fun u hu => ?_)
          refine xEqF (N := 3) (x := u) (y := 0) (A := ev m_I_spell 32 [some (eR 0), some (eI x), some (eI s), some (eI v), some (eI u)] [] ([eO 2 [eSt 19, eI ln, eR 1], eA 0 6 t], c)) (B := ev m_I_spell 40 [some (eR 0), some (eI x), some (eI s), some (eI v), some (eI u)] [] ([eO 2 [eSt 19, eI ln, eR 1], eA 0 6 t], c)) rfl (wr_id (by omega) (by omega)) (show wr 0 = 0 by decide) (by omega) ?_
          refine xEqT (N := 4) (x := 0) (y := 0) (A := ev m_I_spell 48 [some (eR 0), some (eI x), some (eI s), some (eI v), some (eI u), some (eI 0)] [] ([eO 2 [eSt 19, eI ln, eR 1], eA 0 6 t], c)) (B := ev m_I_spell 63 [some (eR 0), some (eI x), some (eI s), some (eI v), some (eI u), some (eI 0)] [] ([eO 2 [eSt 19, eI ln, eR 1], eA 0 6 t], c)) rfl (show wr 0 = 0 by decide) (show wr 0 = 0 by decide) (by decide) ?_
          refine xLtF (N := 3) (x := u) (y := 1) (A := ev m_I_spell 61 [some (eR 0), some (eI x), some (eI s), some (eI v), some (eI u), some (eI 0)] [] ([eO 2 [eSt 19, eI ln, eR 1], eA 0 6 t], c)) (B := ev m_I_spell 54 [some (eR 0), some (eI x), some (eI s), some (eI v), some (eI u), some (eI 0)] [] ([eO 2 [eSt 19, eI ln, eR 1], eA 0 6 t], c)) rfl (wr_id (by omega) (by omega)) (show wr 1 = 1 by decide) (by omega) ?_
          refine xLtF (N := 3) (x := 26) (y := u) (A := ev m_I_spell 61 [some (eR 0), some (eI x), some (eI s), some (eI v), some (eI u), some (eI 0)] [] ([eO 2 [eSt 19, eI ln, eR 1], eA 0 6 t], c)) (B := ev m_I_spell 63 [some (eR 0), some (eI x), some (eI s), some (eI v), some (eI u), some (eI 0)] [] ([eO 2 [eSt 19, eI ln, eR 1], eA 0 6 t], c)) rfl (show wr 26 = 26 by decide) (wr_id (by omega) (by omega)) (by omega) ?_
          refine xEqT (N := 2) (x := 0) (y := 0) (A := ev m_I_spell 68 [some (eR 0), some (eI x), some (eI s), some (eI v), some (eI u), some (eI 0)] [] ([eO 2 [eSt 19, eI ln, eR 1], eA 0 6 t], c)) (B := ev m_I_spell 84 [some (eR 0), some (eI x), some (eI s), some (eI v), some (eI u), some (eI 0)] [] ([eO 2 [eSt 19, eI ln, eR 1], eA 0 6 t], c)) rfl (show wr 0 = 0 by decide) (show wr 0 = 0 by decide) (by decide) ?_
          refine xTop (N := 8) (pc2 := 80) (ls2 := [some (eR 0), some (eI x), some (eI s), some (eI v), some (eI u), some (eI 0)]) (a := (97 + u) - 1) (b := ((96 + Q % 32 : Nat) : Int)) (st2 := [eI s, eR 1]) (w2 := ([eO 2 [eSt 19, eI ln, eR 1], eA 0 6 t], c)) rfl (by omega) (fun w1 hw1 => ?_)
          refine xLd (N := 1) (n := 6) (i := s) (F := fun zq => ev m_I_spell 81 [some (eR 0), some (eI x), some (eI s), some (eI v), some (eI u), some (eI 0)] [] ([eO 2 [eSt 19, eI ln, eR 1], eA 0 6 (eUp t zq w1)], c)) (k := m) rfl (wr_nat (by omega) (by omega)) (by omega) ?_
          refine xSeg (N := 3) (r := ev m_I_spell 13 [some (eR 0), some (eI x), some (eI (s + 1)), some (eI (v + (-1))), some (eI u), some (eI 0)] [] ([eO 2 [eSt 19, eI ln, eR 1], eA 0 6 (eUp t m w1)], c)) rfl ?_
          refine xTk 4 (by rfl) rfl ?_
          rw [hw1]
          exact q2
        · have hvf := hbad h0 h1
          refine ⟨t, fun hc => (by rw [hvf] at hc; exact absurd hc (by decide)), ?_⟩
          rw [hvf, cond_false]
          have hmz : Q % 32 = 0 → m ≠ 0 := fun hc hm => by have := hz.mp hm; omega
          refine xLtF (N := 2) (x := v) (y := 0) (A := ev m_I_spell 90 [some (eR 0), some (eI x), some (eI s), some (eI v)] [] ([eO 2 [eSt 19, eI ln, eR 1], eA 0 6 t], c)) (B := ev m_I_spell 17 [some (eR 0), some (eI x), some (eI s), some (eI v)] [] ([eO 2 [eSt 19, eI ln, eR 1], eA 0 6 t], c)) rfl (wr_id (by omega) (by omega)) (show wr 0 = 0 by decide) (by omega) ?_
          refine xTop (N := 7) (pc2 := 25) (ls2 := [some (eR 0), some (eI x), some (eI s), some (eI v)]) (a := bAnd (bUshr x (5 * v)) 31) (b := ((Q % 32 : Nat) : Int)) (st2 := []) (w2 := ([eO 2 [eSt 19, eI ln, eR 1], eA 0 6 t], c)) rfl hand (fun u hu => ?_)
          refine xEq (N := 3) (x := u) (y := 0) (A := ev m_I_spell 32 [some (eR 0), some (eI x), some (eI s), some (eI v), some (eI u)] [] ([eO 2 [eSt 19, eI ln, eR 1], eA 0 6 t], c)) (B := ev m_I_spell 40 [some (eR 0), some (eI x), some (eI s), some (eI v), some (eI u)] [] ([eO 2 [eSt 19, eI ln, eR 1], eA 0 6 t], c)) rfl (wr_id (by omega) (by omega)) (show wr 0 = 0 by decide) (fun h29 => ?_) (fun h29 => ?_)
          · refine xEq (N := 2) (x := s) (y := 0) (A := ev m_I_spell 36 [some (eR 0), some (eI x), some (eI s), some (eI v), some (eI u)] [] ([eO 2 [eSt 19, eI ln, eR 1], eA 0 6 t], c)) (B := ev m_I_spell 40 [some (eR 0), some (eI x), some (eI s), some (eI v), some (eI u)] [] ([eO 2 [eSt 19, eI ln, eR 1], eA 0 6 t], c)) rfl (wr_id (by omega) (by omega)) (show wr 0 = 0 by decide) (fun h33 => ?_) (fun h33 => ?_)
            · refine xEqF (N := 5) (x := 1) (y := 0) (A := ev m_I_spell 48 [some (eR 0), some (eI x), some (eI s), some (eI v), some (eI u), some (eI 1)] [] ([eO 2 [eSt 19, eI ln, eR 1], eA 0 6 t], c)) (B := ev m_I_spell 63 [some (eR 0), some (eI x), some (eI s), some (eI v), some (eI u), some (eI 1)] [] ([eO 2 [eSt 19, eI ln, eR 1], eA 0 6 t], c)) rfl (show wr 1 = 1 by decide) (show wr 0 = 0 by decide) (by decide) ?_
              refine xEqF (N := 2) (x := 1) (y := 0) (A := ev m_I_spell 68 [some (eR 0), some (eI x), some (eI s), some (eI v), some (eI u), some (eI 1)] [] ([eO 2 [eSt 19, eI ln, eR 1], eA 0 6 t], c)) (B := ev m_I_spell 84 [some (eR 0), some (eI x), some (eI s), some (eI v), some (eI u), some (eI 1)] [] ([eO 2 [eSt 19, eI ln, eR 1], eA 0 6 t], c)) rfl (show wr 1 = 1 by decide) (show wr 0 = 0 by decide) (by decide) ?_
              refine xSeg (N := 2) (r := ev m_I_spell 13 [some (eR 0), some (eI x), some (eI s), some (eI (v + (-1))), some (eI u), some (eI 1)] [] ([eO 2 [eSt 19, eI ln, eR 1], eA 0 6 t], c)) rfl ?_
              refine xTk 4 (by rfl) rfl ?_
              exact absurd hu (by omega)
            · refine xEqT (N := 4) (x := 0) (y := 0) (A := ev m_I_spell 48 [some (eR 0), some (eI x), some (eI s), some (eI v), some (eI u), some (eI 0)] [] ([eO 2 [eSt 19, eI ln, eR 1], eA 0 6 t], c)) (B := ev m_I_spell 63 [some (eR 0), some (eI x), some (eI s), some (eI v), some (eI u), some (eI 0)] [] ([eO 2 [eSt 19, eI ln, eR 1], eA 0 6 t], c)) rfl (show wr 0 = 0 by decide) (show wr 0 = 0 by decide) (by decide) ?_
              refine xLt (N := 3) (x := u) (y := 1) (A := ev m_I_spell 61 [some (eR 0), some (eI x), some (eI s), some (eI v), some (eI u), some (eI 0)] [] ([eO 2 [eSt 19, eI ln, eR 1], eA 0 6 t], c)) (B := ev m_I_spell 54 [some (eR 0), some (eI x), some (eI s), some (eI v), some (eI u), some (eI 0)] [] ([eO 2 [eSt 19, eI ln, eR 1], eA 0 6 t], c)) rfl (wr_id (by omega) (by omega)) (show wr 1 = 1 by decide) (fun h51 => ?_) (fun h51 => ?_)
              · refine xSeg (N := 2) (r := some (.inl (some (eI 0)), ([eO 2 [eSt 19, eI ln, eR 1], eA 0 6 t], c))) rfl ?_
                first | rfl | exact absurd hu (by omega)
              · refine xLt (N := 3) (x := 26) (y := u) (A := ev m_I_spell 61 [some (eR 0), some (eI x), some (eI s), some (eI v), some (eI u), some (eI 0)] [] ([eO 2 [eSt 19, eI ln, eR 1], eA 0 6 t], c)) (B := ev m_I_spell 63 [some (eR 0), some (eI x), some (eI s), some (eI v), some (eI u), some (eI 0)] [] ([eO 2 [eSt 19, eI ln, eR 1], eA 0 6 t], c)) rfl (show wr 26 = 26 by decide) (wr_id (by omega) (by omega)) (fun h58 => ?_) (fun h58 => ?_)
                · refine xSeg (N := 2) (r := some (.inl (some (eI 0)), ([eO 2 [eSt 19, eI ln, eR 1], eA 0 6 t], c))) rfl ?_
                  first | rfl | exact absurd hu (by omega)
                · refine xEqT (N := 2) (x := 0) (y := 0) (A := ev m_I_spell 68 [some (eR 0), some (eI x), some (eI s), some (eI v), some (eI u), some (eI 0)] [] ([eO 2 [eSt 19, eI ln, eR 1], eA 0 6 t], c)) (B := ev m_I_spell 84 [some (eR 0), some (eI x), some (eI s), some (eI v), some (eI u), some (eI 0)] [] ([eO 2 [eSt 19, eI ln, eR 1], eA 0 6 t], c)) rfl (show wr 0 = 0 by decide) (show wr 0 = 0 by decide) (by decide) ?_
                  refine xLd (N := 9) (n := 6) (i := s) (F := fun zq => ev m_I_spell 81 [some (eR 0), some (eI x), some (eI s), some (eI v), some (eI u), some (eI 0)] [] ([eO 2 [eSt 19, eI ln, eR 1], eA 0 6 (eUp t zq ((97 + u) - 1))], c)) (k := m) rfl (wr_nat (by omega) (by omega)) (by omega) ?_
                  refine xSeg (N := 3) (r := ev m_I_spell 13 [some (eR 0), some (eI x), some (eI (s + 1)), some (eI (v + (-1))), some (eI u), some (eI 0)] [] ([eO 2 [eSt 19, eI ln, eR 1], eA 0 6 (eUp t m ((97 + u) - 1))], c)) rfl ?_
                  refine xTk 4 (by rfl) rfl ?_
                  exact absurd hu (by omega)
          · refine xEqT (N := 4) (x := 0) (y := 0) (A := ev m_I_spell 48 [some (eR 0), some (eI x), some (eI s), some (eI v), some (eI u), some (eI 0)] [] ([eO 2 [eSt 19, eI ln, eR 1], eA 0 6 t], c)) (B := ev m_I_spell 63 [some (eR 0), some (eI x), some (eI s), some (eI v), some (eI u), some (eI 0)] [] ([eO 2 [eSt 19, eI ln, eR 1], eA 0 6 t], c)) rfl (show wr 0 = 0 by decide) (show wr 0 = 0 by decide) (by decide) ?_
            refine xLt (N := 3) (x := u) (y := 1) (A := ev m_I_spell 61 [some (eR 0), some (eI x), some (eI s), some (eI v), some (eI u), some (eI 0)] [] ([eO 2 [eSt 19, eI ln, eR 1], eA 0 6 t], c)) (B := ev m_I_spell 54 [some (eR 0), some (eI x), some (eI s), some (eI v), some (eI u), some (eI 0)] [] ([eO 2 [eSt 19, eI ln, eR 1], eA 0 6 t], c)) rfl (wr_id (by omega) (by omega)) (show wr 1 = 1 by decide) (fun h51 => ?_) (fun h51 => ?_)
            · refine xSeg (N := 2) (r := some (.inl (some (eI 0)), ([eO 2 [eSt 19, eI ln, eR 1], eA 0 6 t], c))) rfl ?_
              first | rfl | exact absurd hu (by omega)
            · refine xLt (N := 3) (x := 26) (y := u) (A := ev m_I_spell 61 [some (eR 0), some (eI x), some (eI s), some (eI v), some (eI u), some (eI 0)] [] ([eO 2 [eSt 19, eI ln, eR 1], eA 0 6 t], c)) (B := ev m_I_spell 63 [some (eR 0), some (eI x), some (eI s), some (eI v), some (eI u), some (eI 0)] [] ([eO 2 [eSt 19, eI ln, eR 1], eA 0 6 t], c)) rfl (show wr 26 = 26 by decide) (wr_id (by omega) (by omega)) (fun h58 => ?_) (fun h58 => ?_)
              · refine xSeg (N := 2) (r := some (.inl (some (eI 0)), ([eO 2 [eSt 19, eI ln, eR 1], eA 0 6 t], c))) rfl ?_
                first | rfl | exact absurd hu (by omega)
              · refine xEqT (N := 2) (x := 0) (y := 0) (A := ev m_I_spell 68 [some (eR 0), some (eI x), some (eI s), some (eI v), some (eI u), some (eI 0)] [] ([eO 2 [eSt 19, eI ln, eR 1], eA 0 6 t], c)) (B := ev m_I_spell 84 [some (eR 0), some (eI x), some (eI s), some (eI v), some (eI u), some (eI 0)] [] ([eO 2 [eSt 19, eI ln, eR 1], eA 0 6 t], c)) rfl (show wr 0 = 0 by decide) (show wr 0 = 0 by decide) (by decide) ?_
                refine xLd (N := 9) (n := 6) (i := s) (F := fun zq => ev m_I_spell 81 [some (eR 0), some (eI x), some (eI s), some (eI v), some (eI u), some (eI 0)] [] ([eO 2 [eSt 19, eI ln, eR 1], eA 0 6 (eUp t zq ((97 + u) - 1))], c)) (k := m) rfl (wr_nat (by omega) (by omega)) (by omega) ?_
                refine xSeg (N := 3) (r := ev m_I_spell 13 [some (eR 0), some (eI x), some (eI (s + 1)), some (eI (v + (-1))), some (eI u), some (eI 0)] [] ([eO 2 [eSt 19, eI ln, eR 1], eA 0 6 (eUp t m ((97 + u) - 1))], c)) rfl ?_
                refine xTk 4 (by rfl) rfl ?_
                exact absurd hu (by omega)
  have e0 : cd / 32 ^ 6 = 0 := Nat.div_eq_of_lt h6
  have d0 : dN 7 0 = 0 := rfl
  have v0 : vN 7 0 = true := rfl
  obtain ⟨t', q1, q2⟩ := hl 6 (Nat.le_refl _) t 0 5 (by rw [e0, d0]; rfl) rfl (by rw [e0, v0]) (by rw [e0, d0]; decide) (fun p hp => by rw [e0, d0] at hp; omega)
  refine ⟨t', q1, ?_⟩
  have hu0 : bUshr x 30 = 0 := by
    rw [hx, show (30 : Int) = ((30 : Nat) : Int) from rfl, bUshr_n (by omega) (by decide), Nat.shiftRight_eq_div_pow, Nat.div_eq_of_lt h]
    rfl
  refine xTop (N := 3) (pc2 := 4) (ls2 := [some (eR 0), some (eI x)]) (a := bUshr x 30) (b := 0) (st2 := []) (w2 := ([eO 2 [eSt 19, eI ln, eR 1], eA 0 6 t], c)) rfl hu0 (fun u hu => ?_)
  refine xEqT (N := 1) (x := u) (y := 0) (A := ev m_I_spell 9 [some (eR 0), some (eI x)] [] ([eO 2 [eSt 19, eI ln, eR 1], eA 0 6 t], c)) (B := ev m_I_spell 7 [some (eR 0), some (eI x)] [] ([eO 2 [eSt 19, eI ln, eR 1], eA 0 6 t], c)) rfl (wr_id (by omega) (by omega)) (show wr 0 = 0 by decide) (by omega) ?_
  refine xSeg (N := 4) (r := ev m_I_spell 13 [some (eR 0), some (eI x), some (eI 0), some (eI 5)] [] ([eO 2 [eSt 19, eI ln, eR 1], eA 0 6 t], c)) rfl ?_
  exact q2
theorem c_spellBig {t : Nat → Int} {c : Nat × Nat} {x ln : Int} {cd : Nat} (hx : x = (cd : Int)) (h : 1073741824 ≤ cd) (h2 : cd < 2147483648) : ev m_I_spell 0 [some (eR 0), some (eI x)] [] ([eO 2 [eSt 19, eI ln, eR 1], eA 0 6 t], c) = some (.inl (some (eI 0)), ([eO 2 [eSt 19, eI ln, eR 1], eA 0 6 t], c)) := by
  have hu0 : bUshr x 30 = 1 := by
    rw [hx, show (30 : Int) = ((30 : Nat) : Int) from rfl, bUshr_n (by omega) (by decide), Nat.shiftRight_eq_div_pow, show cd / 2 ^ 30 = 1 by omega]
    rfl
  refine xTop (N := 3) (pc2 := 4) (ls2 := [some (eR 0), some (eI x)]) (a := bUshr x 30) (b := 1) (st2 := []) (w2 := ([eO 2 [eSt 19, eI ln, eR 1], eA 0 6 t], c)) rfl hu0 (fun u hu => ?_)
  refine xEqF (N := 1) (x := u) (y := 0) (A := ev m_I_spell 9 [some (eR 0), some (eI x)] [] ([eO 2 [eSt 19, eI ln, eR 1], eA 0 6 t], c)) (B := ev m_I_spell 7 [some (eR 0), some (eI x)] [] ([eO 2 [eSt 19, eI ln, eR 1], eA 0 6 t], c)) rfl (wr_id (by omega) (by omega)) (show wr 0 = 0 by decide) (by omega) ?_
  refine xSeg (N := 2) (r := some (.inl (some (eI 0)), ([eO 2 [eSt 19, eI ln, eR 1], eA 0 6 t], c))) rfl ?_
  rfl
theorem bUshr_neg {x : Int} (h1 : -2147483648 ≤ x) (h2 : x < 0) : 0 < bUshr x 30 ∧ bUshr x 30 < 4 := by
  obtain ⟨n, hn⟩ : ∃ n : Nat, (n : Int) = x + 4294967296 := ⟨(x + 4294967296).toNat, by omega⟩
  have hx : Int32.ofInt x = nI n := by
    apply Int32.toBitVec_inj.mp
    show BitVec.ofInt 32 x = BitVec.ofNat 32 n
    apply BitVec.eq_of_toNat_eq
    rw [BitVec.toNat_ofInt, BitVec.toNat_ofNat]
    omega
  unfold bUshr
  rw [hx, show (30 : Int) = ((30 : Nat) : Int) from rfl, oI_n]
  have h0 : (((nI 30).toUInt32 &&& Int32.toUInt32 31).toBitVec % 32).toNat = 30 := by decide +kernel
  have h : ((nI n).toUInt32 >>> ((nI 30).toUInt32 &&& Int32.toUInt32 31)).toInt32 = nI (n >>> 30) := by
    apply Int32.toBitVec_inj.mp
    show (BitVec.ofNat 32 n) >>> (((nI 30).toUInt32 &&& Int32.toUInt32 31).toBitVec % 32) = BitVec.ofNat 32 (n >>> 30)
    rw [BitVec.ushiftRight_eq', h0]
    apply BitVec.eq_of_toNat_eq
    rw [BitVec.toNat_ushiftRight, BitVec.toNat_ofNat, BitVec.toNat_ofNat, Nat.mod_eq_of_lt (by omega), Nat.mod_eq_of_lt (Nat.lt_of_le_of_lt (Nat.shiftRight_le _ _) (by omega))]
  have hb : n >>> 30 = 2 ∨ n >>> 30 = 3 := by rw [Nat.shiftRight_eq_div_pow]; omega
  rw [h, nI_toInt (by omega)]
  omega
theorem c_spellNeg {t : Nat → Int} {c : Nat × Nat} {x ln : Int} (h : -2147483648 ≤ x) (h2 : x < 0) : ev m_I_spell 0 [some (eR 0), some (eI x)] [] ([eO 2 [eSt 19, eI ln, eR 1], eA 0 6 t], c) = some (.inl (some (eI 0)), ([eO 2 [eSt 19, eI ln, eR 1], eA 0 6 t], c)) := by
  have hu0 := bUshr_neg h h2
  refine xEqF (N := 4) (x := bUshr x 30) (y := 0) (A := ev m_I_spell 9 [some (eR 0), some (eI x)] [] ([eO 2 [eSt 19, eI ln, eR 1], eA 0 6 t], c)) (B := ev m_I_spell 7 [some (eR 0), some (eI x)] [] ([eO 2 [eSt 19, eI ln, eR 1], eA 0 6 t], c)) rfl (wr_id (by omega) (by omega)) (show wr 0 = 0 by decide) (by omega) ?_
  refine xSeg (N := 2) (r := some (.inl (some (eI 0)), ([eO 2 [eSt 19, eI ln, eR 1], eA 0 6 t], c))) rfl ?_
  rfl
