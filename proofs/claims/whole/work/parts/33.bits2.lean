/-! Bits: the number of bits, the lowest bit. -/
theorem pc_ct (m : Nat) : ∀ n, pc n m = fb_ct (fun i => m.testBit i) n
  | 0 => rfl
  | n + 1 => by rw [fb_ct_succ, ← pc_ct m n]; show (if m.testBit n then 1 else 0) + pc n m = _; omega
theorem bUshr_n {a k : Nat} (ha : a < 2147483648) (hk : k < 32) : bUshr (a : Int) (k : Int) = ((a >>> k : Nat) : Int) := by
  unfold bUshr
  rw [oI_n, oI_n]
  have h0 : ∀ k, k < 32 → (((nI k).toUInt32 &&& Int32.toUInt32 31).toBitVec % 32).toNat = k := by decide +kernel
  have hlt : a >>> k < 2147483648 := Nat.lt_of_le_of_lt (Nat.shiftRight_le a k) ha
  have h : ((nI a).toUInt32 >>> ((nI k).toUInt32 &&& Int32.toUInt32 31)).toInt32 = nI (a >>> k) := by
    apply Int32.toBitVec_inj.mp
    show (BitVec.ofNat 32 a) >>> (((nI k).toUInt32 &&& Int32.toUInt32 31).toBitVec % 32) = BitVec.ofNat 32 (a >>> k)
    rw [BitVec.ushiftRight_eq', h0 k hk]
    apply BitVec.eq_of_toNat_eq
    rw [BitVec.toNat_ushiftRight, BitVec.toNat_ofNat, BitVec.toNat_ofNat, Nat.mod_eq_of_lt (by omega), Nat.mod_eq_of_lt (by omega)]
  rw [h, nI_toInt hlt]
theorem and_b (x y : Nat) : x &&& y = 256 * (x / 256 &&& y / 256) + (x % 256 &&& y % 256) := by
  have h1 : (x &&& y) / 2 ^ 8 = x / 2 ^ 8 &&& y / 2 ^ 8 := Nat.and_div_two_pow
  have h2 : (x &&& y) % 2 ^ 8 = x % 2 ^ 8 &&& y % 2 ^ 8 := Nat.and_mod_two_pow
  have h3 := Nat.div_add_mod (x &&& y) 256
  rw [show (256 : Nat) = 2 ^ 8 from rfl] at h3 ⊢
  rw [← h1, ← h2]
  exact h3.symm
theorem and_4 {x y : Nat} (hx : x < 4294967296) : x &&& y = (x % 256 &&& y % 256) + 256 * (x / 256 % 256 &&& y / 256 % 256) + 65536 * (x / 65536 % 256 &&& y / 65536 % 256) + 16777216 * (x / 16777216 &&& y / 16777216) := by
  have h1 := and_b x y
  have h2 := and_b (x / 256) (y / 256)
  have h3 := and_b (x / 65536) (y / 65536)
  rw [show x / 256 / 256 = x / 65536 by omega, show y / 256 / 256 = y / 65536 by omega] at h2
  rw [show x / 65536 / 256 = x / 16777216 by omega, show y / 65536 / 256 = y / 16777216 by omega] at h3
  omega
def p1 (b : Nat) : Nat := b - (b / 2 &&& 85)
def p2 (b : Nat) : Nat := (p1 b &&& 51) + (p1 b / 4 &&& 51)
def p3 (b : Nat) : Nat := (p2 b + p2 b / 16) &&& 15
theorem q1 : ∀ b, b < 256 → ∀ t, t < 2 → ((b / 2 + 128 * t) &&& 85) = (b / 2 &&& 85) := by decide +kernel
theorem q1b : ∀ b, b < 256 → (b / 2 &&& 85) ≤ b ∧ p1 b < 256 := by decide +kernel
theorem q2 : ∀ b, b < 256 → ∀ t, t < 4 → ((b / 4 + 64 * t) &&& 51) = (b / 4 &&& 51) := by decide +kernel
theorem q2b : ∀ b, b < 256 → p2 b < 69 ∧ p2 b % 16 < 5 := by decide +kernel
theorem q3 : ∀ b, b < 69 → ∀ t, t < 5 → ((b + b / 16 + 16 * t) &&& 15) = ((b + b / 16) &&& 15) := by decide +kernel
theorem q3b : ∀ b, b < 256 → p3 b = pc 8 b ∧ p3 b ≤ 8 := by decide +kernel
theorem bv_tb (m i : Nat) : (if m.testBit i then 1 else 0) = m / 2 ^ i % 2 := by
  rw [Nat.testBit_eq_decide_div_mod_eq]
  have := Nat.mod_two_eq_zero_or_one (m / 2 ^ i)
  rcases this with h | h <;> simp [h]
theorem pc_split (m k : Nat) : ∀ n, pc (k + n) m = pc k (m % 2 ^ k) + pc n (m / 2 ^ k)
  | 0 => by
    rw [pc_ct, pc_ct]
    show fb_ct _ k = fb_ct _ k + 0
    rw [Nat.add_zero]
    refine fb_ct_cong (fun i hi => ?_)
    rw [Nat.testBit_mod_two_pow]
    simp [hi]
  | n + 1 => by
    have h : pc (k + (n + 1)) m = (if m.testBit (k + n) then 1 else 0) + pc (k + n) m := rfl
    have h2 : pc (n + 1) (m / 2 ^ k) = (if (m / 2 ^ k).testBit n then 1 else 0) + pc n (m / 2 ^ k) := rfl
    rw [h, h2, pc_split m k n, Nat.testBit_div_two_pow, Nat.add_comm k n]
    omega
theorem pc_bytes {m : Nat} (h : m < 1073741824) : pc 30 m = pc 8 (m % 256) + pc 8 (m / 256 % 256) + pc 8 (m / 65536 % 256) + pc 8 (m / 16777216) := by
  have h1 := pc_split m 8 22
  have h2 := pc_split (m / 256) 8 14
  have h3 := pc_split (m / 65536) 8 6
  simp only [Nat.reduceAdd, Nat.reducePow] at h1 h2 h3
  rw [show m / 256 / 256 = m / 65536 by omega] at h2
  rw [show m / 65536 / 256 = m / 16777216 by omega] at h3
  have h4 : ∀ b, b < 64 → pc 6 b = pc 8 b := by decide +kernel
  have h5 := h4 (m / 16777216) (by omega)
  omega
def bcN (m : Nat) : Nat :=
  let i := m - (m >>> 1 &&& 1431655765)
  let j := (i &&& 858993459) + (i >>> 2 &&& 858993459)
  let k := (j + j >>> 4) &&& 252645135
  let l := k + k >>> 8
  (l + l >>> 16) &&& 63
theorem bc1 {m : Nat} (h : m < 1073741824) : (m >>> 1 &&& 1431655765) ≤ m ∧ m - (m >>> 1 &&& 1431655765) = p1 (m % 256) + 256 * p1 (m / 256 % 256) + 65536 * p1 (m / 65536 % 256) + 16777216 * p1 (m / 16777216) := by
  rw [Nat.shiftRight_eq_div_pow, and_4 (by omega)]
  have e0 := q1 (m % 256) (by omega) (m / 256 % 2) (by omega)
  have e1 := q1 (m / 256 % 256) (by omega) (m / 65536 % 2) (by omega)
  have e2 := q1 (m / 65536 % 256) (by omega) (m / 16777216 % 2) (by omega)
  have b0 := q1b (m % 256) (by omega)
  have b1 := q1b (m / 256 % 256) (by omega)
  have b2 := q1b (m / 65536 % 256) (by omega)
  have b3 := q1b (m / 16777216) (by omega)
  simp only [Nat.reducePow, Nat.reduceMod, Nat.reduceDiv]
  rw [show m / 2 % 256 = m % 256 / 2 + 128 * (m / 256 % 2) by omega, show m / 2 / 256 % 256 = m / 256 % 256 / 2 + 128 * (m / 65536 % 2) by omega, show m / 2 / 65536 % 256 = m / 65536 % 256 / 2 + 128 * (m / 16777216 % 2) by omega, show m / 2 / 16777216 = m / 16777216 / 2 by omega, e0, e1, e2]
  unfold p1
  unfold p1 at b0 b1 b2 b3
  omega
theorem bc2 {a b c d : Nat} (ha : a < 256) (hb : b < 256) (hc : c < 256) (hd : d < 256) : ((a + 256 * b + 65536 * c + 16777216 * d) &&& 858993459) + ((a + 256 * b + 65536 * c + 16777216 * d) >>> 2 &&& 858993459) = ((a &&& 51) + (a / 4 &&& 51)) + 256 * ((b &&& 51) + (b / 4 &&& 51)) + 65536 * ((c &&& 51) + (c / 4 &&& 51)) + 16777216 * ((d &&& 51) + (d / 4 &&& 51)) := by
  rw [Nat.shiftRight_eq_div_pow, and_4 (x := a + 256 * b + 65536 * c + 16777216 * d) (by omega), and_4 (x := (a + 256 * b + 65536 * c + 16777216 * d) / 2 ^ 2) (by omega)]
  have e0 := q2 a ha (b % 4) (by omega)
  have e1 := q2 b hb (c % 4) (by omega)
  have e2 := q2 c hc (d % 4) (by omega)
  generalize hm : a + 256 * b + 65536 * c + 16777216 * d = m
  simp only [Nat.reducePow, Nat.reduceMod, Nat.reduceDiv]
  rw [show m / 4 % 256 = a / 4 + 64 * (b % 4) by omega, show m / 4 / 256 % 256 = b / 4 + 64 * (c % 4) by omega, show m / 4 / 65536 % 256 = c / 4 + 64 * (d % 4) by omega, show m / 4 / 16777216 = d / 4 by omega, e0, e1, e2, show m % 256 = a by omega, show m / 256 % 256 = b by omega, show m / 65536 % 256 = c by omega, show m / 16777216 = d by omega]
  omega
theorem byt {m a b c d : Nat} (h : m = a + 256 * b + 65536 * c + 16777216 * d) (ha : a < 256) (hb : b < 256) (hc : c < 256) : m % 256 = a ∧ m / 256 % 256 = b ∧ m / 65536 % 256 = c ∧ m / 16777216 = d := by omega
theorem byl {a b c d : Nat} (ha : a ≤ 8) (hb : b ≤ 8) (hc : c ≤ 8) (hd : d ≤ 8) {k l : Nat} (hk : k = a + 256 * b + 65536 * c + 16777216 * d) (hl : l = k + k / 256) : (l + l / 65536) % 64 = a + b + c + d := by
  have h1 : k / 256 = b + 256 * c + 65536 * d := by omega
  have h2 : l = (a + b) + 256 * (b + c) + 65536 * (c + d) + 16777216 * d := by omega
  have h3 : l / 65536 = (c + d) + 256 * d := by omega
  omega
theorem bc3 {a b c d : Nat} (ha : a < 69) (hb : b < 69) (hc : c < 69) (hd : d < 69) (hb4 : b % 16 < 5) (hc4 : c % 16 < 5) (hd4 : d % 16 < 5) : ((a + 256 * b + 65536 * c + 16777216 * d) + (a + 256 * b + 65536 * c + 16777216 * d) >>> 4 &&& 252645135) = ((a + a / 16) &&& 15) + 256 * ((b + b / 16) &&& 15) + 65536 * ((c + c / 16) &&& 15) + 16777216 * ((d + d / 16) &&& 15) := by
  generalize hm : a + 256 * b + 65536 * c + 16777216 * d = m
  rw [Nat.shiftRight_eq_div_pow, and_4 (by omega)]
  have e0 := q3 a ha (b % 16) (by omega)
  have e1 := q3 b hb (c % 16) (by omega)
  have e2 := q3 c hc (d % 16) (by omega)
  simp only [Nat.reducePow, Nat.reduceMod, Nat.reduceDiv]
  have g0 : m / 16 = a / 16 + 16 * b + 4096 * c + 1048576 * d := by omega
  have g1 : m + m / 16 = (a + a / 16 + 16 * (b % 16)) + 256 * (b + b / 16 + 16 * (c % 16)) + 65536 * (c + c / 16 + 16 * (d % 16)) + 16777216 * (d + d / 16) := by omega
  obtain ⟨f0, f1, f2, f3⟩ := byt g1 (by omega) (by omega) (by omega)
  rw [f0, f1, f2, f3, e0, e1, e2]
theorem bc_eq {m : Nat} (h : m < 1073741824) : bcN m = pc 30 m ∧ m - (m >>> 1 &&& 1431655765) < 1073741824 * 2 := by
  have b0 := q1b (m % 256) (by omega)
  have b1 := q1b (m / 256 % 256) (by omega)
  have b2 := q1b (m / 65536 % 256) (by omega)
  have b3 := q1b (m / 16777216) (by omega)
  have c0 := q2b (m % 256) (by omega)
  have c1 := q2b (m / 256 % 256) (by omega)
  have c2 := q2b (m / 65536 % 256) (by omega)
  have c3 := q2b (m / 16777216) (by omega)
  have d0 := q3b (m % 256) (by omega)
  have d1 := q3b (m / 256 % 256) (by omega)
  have d2 := q3b (m / 65536 % 256) (by omega)
  have d3 := q3b (m / 16777216) (by omega)
  refine ⟨?_, by omega⟩
  unfold bcN
  dsimp only
  rw [(bc1 h).2, bc2 b0.2 b1.2 b2.2 b3.2]
  rw [show (p1 (m % 256) &&& 51) + (p1 (m % 256) / 4 &&& 51) = p2 (m % 256) from rfl, show (p1 (m / 256 % 256) &&& 51) + (p1 (m / 256 % 256) / 4 &&& 51) = p2 (m / 256 % 256) from rfl, show (p1 (m / 65536 % 256) &&& 51) + (p1 (m / 65536 % 256) / 4 &&& 51) = p2 (m / 65536 % 256) from rfl, show (p1 (m / 16777216) &&& 51) + (p1 (m / 16777216) / 4 &&& 51) = p2 (m / 16777216) from rfl]
  rw [bc3 c0.1 c1.1 c2.1 c3.1 c1.2 c2.2 c3.2]
  rw [show ((p2 (m % 256) + p2 (m % 256) / 16) &&& 15) = p3 (m % 256) from rfl, show ((p2 (m / 256 % 256) + p2 (m / 256 % 256) / 16) &&& 15) = p3 (m / 256 % 256) from rfl, show ((p2 (m / 65536 % 256) + p2 (m / 65536 % 256) / 16) &&& 15) = p3 (m / 65536 % 256) from rfl, show ((p2 (m / 16777216) + p2 (m / 16777216) / 16) &&& 15) = p3 (m / 16777216) from rfl]
  rw [pc_bytes h, ← d0.1, ← d1.1, ← d2.1, ← d3.1]
  rw [Nat.shiftRight_eq_div_pow, Nat.shiftRight_eq_div_pow, show (63 : Nat) = 2 ^ 6 - 1 from rfl, Nat.and_two_pow_sub_one_eq_mod]
  exact byl d0.2 d1.2 d2.2 d3.2 rfl rfl
theorem i_sub {a b : Nat} (h : b ≤ a) : (a : Int) - (b : Int) = ((a - b : Nat) : Int) := by omega
theorem i_add (a b : Nat) : (a : Int) + (b : Int) = ((a + b : Nat) : Int) := by omega
theorem bi1 {x : Int} {m : Nat} (hx : x = (m : Int)) (h : m < 1073741824) : x - bAnd (bUshr x 1) 1431655765 = ((m - (m >>> 1 &&& 1431655765) : Nat) : Int) := by
  subst hx
  rw [show (1 : Int) = ((1 : Nat) : Int) from rfl, bUshr_n (by omega) (by decide), show (1431655765 : Int) = ((1431655765 : Nat) : Int) from rfl, bAnd_n (by have := Nat.shiftRight_le m 1; omega), i_sub (bc1 h).1]
theorem bi2 {x : Int} {i : Nat} (hx : x = (i : Int)) (h : i < 2147483648) : bAnd x 858993459 + bAnd (bUshr x 2) 858993459 = (((i &&& 858993459) + (i >>> 2 &&& 858993459) : Nat) : Int) := by
  subst hx
  rw [show (2 : Int) = ((2 : Nat) : Int) from rfl, bUshr_n (by omega) (by decide), show (858993459 : Int) = ((858993459 : Nat) : Int) from rfl, bAnd_n (by omega), bAnd_n (by have := Nat.shiftRight_le i 2; omega), i_add]
theorem bi3 {x : Int} {j : Nat} (hx : x = (j : Int)) (h : j < 1879048192) : bAnd (x + bUshr x 4) 252645135 = (((j + j >>> 4) &&& 252645135 : Nat) : Int) := by
  subst hx
  rw [show (4 : Int) = ((4 : Nat) : Int) from rfl, bUshr_n (by omega) (by decide), i_add, show (252645135 : Int) = ((252645135 : Nat) : Int) from rfl, bAnd_n (by rw [Nat.shiftRight_eq_div_pow]; omega)]
theorem bi4 {x : Int} {k : Nat} (hx : x = (k : Int)) (h : k < 2147483648) : x + bUshr x 8 = ((k + k >>> 8 : Nat) : Int) := by
  subst hx
  rw [show (8 : Int) = ((8 : Nat) : Int) from rfl, bUshr_n (by omega) (by decide), i_add]
theorem bi5 {x : Int} {k : Nat} (hx : x = (k : Int)) (h : k < 1073741824) : bAnd (x + bUshr x 16) 63 = (((k + k >>> 16) &&& 63 : Nat) : Int) := by
  subst hx
  rw [show (16 : Int) = ((16 : Nat) : Int) from rfl, bUshr_n (by omega) (by decide), i_add, show (63 : Int) = ((63 : Nat) : Int) from rfl, bAnd_n (by rw [Nat.shiftRight_eq_div_pow]; omega)]
theorem c_bitCount {x : Int} {m : Nat} {w : eW} (hx : x = (m : Int)) (h : m < 1073741824) : ev m_J_bitCount 0 [some (eI x)] [] w = some (.inl (some (eI ((pc 30 m : Nat) : Int))), w) := by
  have e1 := bc1 h
  have e2 := (bc_eq h).2
  have b0 := q1b (m % 256) (by omega)
  have b1 := q1b (m / 256 % 256) (by omega)
  have b2 := q1b (m / 65536 % 256) (by omega)
  have b3 := q1b (m / 16777216) (by omega)
  have c0 := q2b (m % 256) (by omega)
  have c1 := q2b (m / 256 % 256) (by omega)
  have c2 := q2b (m / 65536 % 256) (by omega)
  have c3 := q2b (m / 16777216) (by omega)
  have g2 : ((m - (m >>> 1 &&& 1431655765)) &&& 858993459) + ((m - (m >>> 1 &&& 1431655765)) >>> 2 &&& 858993459) = p2 (m % 256) + 256 * p2 (m / 256 % 256) + 65536 * p2 (m / 65536 % 256) + 16777216 * p2 (m / 16777216) := by rw [e1.2, bc2 b0.2 b1.2 b2.2 b3.2]; rfl
  rw [← (bc_eq h).1]
  unfold bcN
  dsimp only
  generalize hi : m - (m >>> 1 &&& 1431655765) = i at *
  generalize hj : (i &&& 858993459) + (i >>> 2 &&& 858993459) = j at *
  have g3 : ((j + j >>> 4) &&& 252645135) ≤ 252645135 := Nat.and_le_right
  generalize hk : (j + j >>> 4) &&& 252645135 = k at *
  have g4 : k + k >>> 8 < 2 * 252645136 := by rw [Nat.shiftRight_eq_div_pow]; omega
  generalize hl : k + k >>> 8 = l at *
  refine xTop (N := 7) (pc2 := 9) (ls2 := [some (eI x)]) (a := x - (bAnd (bUshr x 1) 1431655765)) (b := (i : Int)) (st2 := []) (w2 := (w.1, w.2)) rfl ((bi1 hx h).trans (by rw [hi])) (fun y1 hy1 => ?_)
  refine xTop (N := 10) (pc2 := 23) (ls2 := [some (eI y1)]) (a := (bAnd y1 858993459) + (bAnd (bUshr y1 2) 858993459)) (b := (j : Int)) (st2 := []) (w2 := (w.1, w.2)) rfl ((bi2 hy1 (by omega)).trans (by rw [hj])) (fun y2 hy2 => ?_)
  refine xTop (N := 8) (pc2 := 33) (ls2 := [some (eI y2)]) (a := bAnd (y2 + (bUshr y2 4)) 252645135) (b := (k : Int)) (st2 := []) (w2 := (w.1, w.2)) rfl ((bi3 hy2 (by omega)).trans (by rw [hk])) (fun y3 hy3 => ?_)
  refine xTop (N := 6) (pc2 := 40) (ls2 := [some (eI y3)]) (a := y3 + (bUshr y3 8)) (b := (l : Int)) (st2 := []) (w2 := (w.1, w.2)) rfl ((bi4 hy3 (by omega)).trans (by rw [hl])) (fun y4 hy4 => ?_)
  refine xTop (N := 10) (pc2 := 52) (ls2 := [some (eI (y4 + (bUshr y4 16)))]) (a := bAnd (y4 + (bUshr y4 16)) 63) (b := ((((l + l >>> 16) &&& 63 : Nat)) : Int)) (st2 := []) (w2 := (w.1, w.2)) rfl (bi5 hy4 (by omega)) (fun y5 hy5 => ?_)
  refine xSeg (N := 1) (r := some (.inl (some (eI y5)), (w.1, w.2))) rfl ?_
  rw [hy5]
/-- the lowest bit -/
theorem low_ex : ∀ m : Nat, m ≠ 0 → ∃ t q, m = 2 ^ t * (2 * q + 1) := by
  intro m
  induction m using Nat.strongRecOn with
  | ind m ih =>
    intro h
    rcases Nat.mod_two_eq_zero_or_one m with h2 | h2
    · obtain ⟨t, q, e⟩ := ih (m / 2) (by omega) (by omega)
      exact ⟨t + 1, q, by rw [Nat.pow_succ, Nat.mul_right_comm, ← e]; omega⟩
    · exact ⟨0, m / 2, by rw [Nat.pow_zero]; omega⟩
theorem low_bit {m : Nat} (h : m ≠ 0) : ∃ t, m.testBit t = true ∧ (∀ i, i < t → m.testBit i = false) ∧ ∀ i, (m - 1).testBit i = if i < t then true else if i = t then false else m.testBit i := by
  obtain ⟨t, q, rfl⟩ := low_ex m h
  have hp : 0 < 2 ^ t := Nat.two_pow_pos t
  have e1 : ∀ i, (2 ^ t * (2 * q + 1)).testBit i = if i < t then false else (2 * q + 1).testBit (i - t) := fun i => by
    have := Nat.testBit_two_pow_mul_add (2 * q + 1) hp i
    rw [Nat.add_zero] at this
    rw [this, Nat.zero_testBit]
  have e2 : ∀ i, (2 ^ t * (2 * q + 1) - 1).testBit i = if i < t then true else (2 * q).testBit (i - t) := fun i => by
    rw [show 2 ^ t * (2 * q + 1) - 1 = 2 ^ t * (2 * q) + (2 ^ t - 1) by rw [Nat.mul_add, Nat.mul_one]; omega, Nat.testBit_two_pow_mul_add (2 * q) (by omega : 2 ^ t - 1 < 2 ^ t) i, Nat.testBit_two_pow_sub_one]
    by_cases hi : i < t <;> simp [hi]
  refine ⟨t, ?_, fun i hi => ?_, fun i => ?_⟩
  · rw [e1, if_neg (by omega), Nat.sub_self, Nat.testBit_zero]
    simp
  · rw [e1, if_pos hi]
  · rw [e2, e1]
    by_cases hi : i < t
    · rw [if_pos hi, if_pos hi]
    · rw [if_neg hi, if_neg hi, if_neg hi]
      by_cases h2 : i = t
      · subst h2
        rw [if_pos rfl, Nat.sub_self, Nat.testBit_zero]
        simp
      · rw [if_neg h2, show i - t = (i - t - 1) + 1 by omega, Nat.testBit_succ, Nat.testBit_succ]
        congr 1
        omega
