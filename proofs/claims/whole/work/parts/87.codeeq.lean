theorem ge_top {x L : Nat} (h1 : 1 ≤ x / 32 ^ (L - 1) % 32) : 32 ^ (L - 1) ≤ x := by
  by_cases h : x < 32 ^ (L - 1)
  · rw [Nat.div_eq_of_lt h] at h1
    omega
  · omega
theorem len_eq {x L M : Nat} (hL : 2 ≤ L) (hM : 2 ≤ M) (l1 : x < 32 ^ L) (l2 : 1 ≤ x / 32 ^ (L - 1) % 32) (m1 : x < 32 ^ M) (m2 : 1 ≤ x / 32 ^ (M - 1) % 32) : L = M := by
  have a1 := ge_top l2
  have a2 := ge_top m2
  rcases Nat.lt_trichotomy L M with h | h | h
  · have := Nat.pow_le_pow_right (n := 32) (by decide) (show L ≤ M - 1 by omega)
    omega
  · exact h
  · have := Nat.pow_le_pow_right (n := 32) (by decide) (show M ≤ L - 1 by omega)
    omega
/-- a word of the row is this number: as long, the same letters -/
theorem cd_eq {a : eRow} {w cd L : Nat} (hV : iV a) (hw : w < a 2) (hc : cdOk cd L) : a (88 + w) = cd ↔ (wl a w = L ∧ ∀ p, p < L → dgt a w p = cd / 32 ^ (L - 1 - p) % 32) := by
  obtain ⟨v1, v2, ⟨v3, v4⟩, v5⟩ := hV.2 w hw
  obtain ⟨c1, c2, ⟨c3, c4⟩, c5⟩ := hc
  constructor
  · intro h
    have t1 := (v5 0 (by omega)).1
    have t2 := (c5 0 (by omega)).1
    unfold dgt at t1
    rw [h] at v4 t1
    rw [Nat.sub_zero] at t1 t2
    have hl := len_eq v1 c1 v4 t1 c4 t2
    refine ⟨hl, fun p hp => ?_⟩
    unfold dgt
    rw [hl, h]
  · intro h
    obtain ⟨hl, hd⟩ := h
    rw [hl] at v4
    refine num_eq v4 c4 (fun j hj => ?_)
    have h1 := hd (L - 1 - j) (by omega)
    unfold dgt at h1
    rw [hl, show L - 1 - (L - 1 - j) = j by omega] at h1
    exact h1
