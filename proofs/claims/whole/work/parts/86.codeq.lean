/-! A code's digits are the letters; codes with the same digits are one. -/
theorem cdF_dig {B : Nat → Nat} {S : Nat} : ∀ {j p : Nat}, (∀ q, q < j → 97 ≤ B (S + q) ∧ B (S + q) ≤ 122) → p < j → cdF B S j / 32 ^ (j - 1 - p) % 32 = B (S + p) - 96
  | 0, p, _, hp => absurd hp (Nat.not_lt_zero p)
  | j + 1, p, h, hp => by
    have h2 := h j (by omega)
    show (cdF B S j * 32 + (B (S + j) - 96)) / 32 ^ (j + 1 - 1 - p) % 32 = B (S + p) - 96
    by_cases he : p = j
    · rw [he, show j + 1 - 1 - j = 0 by omega, Nat.pow_zero, Nat.div_one]
      omega
    · rw [show j + 1 - 1 - p = (j - 1 - p) + 1 by omega, Nat.pow_succ, Nat.mul_comm (32 ^ _) 32, ← Nat.div_div_eq_div_mul, show (cdF B S j * 32 + (B (S + j) - 96)) / 32 = cdF B S j by omega]
      exact cdF_dig (fun q hq => h q (by omega)) (by omega)
theorem cdF_ok {B : Nat → Nat} {S L : Nat} (h : ∀ q, q < L → 97 ≤ B (S + q) ∧ B (S + q) ≤ 122) (h2 : 2 ≤ L) (h6 : L ≤ 6) : cdOk (cdF B S L) L := by
  have hlt := cdF_lt h
  refine ⟨h2, h6, ⟨Nat.lt_of_lt_of_le hlt (show 32 ^ L ≤ 32 ^ 6 from Nat.pow_le_pow_right (by decide) h6), hlt⟩, fun i hi => ?_⟩
  rw [cdF_dig h hi]
  have := h i hi
  omega
theorem num_eq : ∀ {L x y : Nat}, x < 32 ^ L → y < 32 ^ L → (∀ j, j < L → x / 32 ^ j % 32 = y / 32 ^ j % 32) → x = y
  | 0, x, y, hx, hy, _ => by
    rw [Nat.pow_zero] at hx hy
    omega
  | L + 1, x, y, hx, hy, h => by
    rw [Nat.pow_succ] at hx hy
    have h0 := h 0 (by omega)
    rw [Nat.pow_zero, Nat.div_one, Nat.div_one] at h0
    have h1 := num_eq (L := L) (x := x / 32) (y := y / 32) (Nat.div_lt_of_lt_mul (by omega)) (Nat.div_lt_of_lt_mul (by omega)) (fun j hj => by
      have h2 := h (j + 1) (by omega)
      rw [Nat.pow_succ, Nat.mul_comm, ← Nat.div_div_eq_div_mul, ← Nat.div_div_eq_div_mul] at h2
      exact h2)
    omega
