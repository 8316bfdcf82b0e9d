/-! Ints as numbers: what the bit operations do to masks. -/
theorem wr_id {x : Int} (h1 : -2147483648 ≤ x) (h2 : x < 2147483648) : wr x = x := by
  unfold wr Int.bmod
  dsimp only
  split <;> omega
theorem oI_n (n : Nat) : Int32.ofInt (n : Int) = nI n := (of_nat n).symm
theorem nI_and (a b : Nat) : nI a &&& nI b = nI (a &&& b) := by
  apply Int32.toBitVec_inj.mp
  show BitVec.ofNat 32 a &&& BitVec.ofNat 32 b = BitVec.ofNat 32 (a &&& b)
  exact BitVec.ofNat_and.symm
theorem nI_or (a b : Nat) : nI a ||| nI b = nI (a ||| b) := by
  apply Int32.toBitVec_inj.mp
  show BitVec.ofNat 32 a ||| BitVec.ofNat 32 b = BitVec.ofNat 32 (a ||| b)
  exact BitVec.ofNat_or.symm
theorem bAnd_n {a b : Nat} (ha : a < 2147483648) : bAnd (a : Int) (b : Int) = ((a &&& b : Nat) : Int) := by
  unfold bAnd
  rw [oI_n, oI_n, nI_and, nI_toInt]
  exact Nat.lt_of_le_of_lt Nat.and_le_left ha
theorem bOr_n {a b : Nat} (ha : a < 2147483648) (hb : b < 2147483648) : bOr (a : Int) (b : Int) = ((a ||| b : Nat) : Int) := by
  unfold bOr
  rw [oI_n, oI_n, nI_or, nI_toInt]
  exact Nat.or_lt_two_pow (n := 31) ha hb
theorem bShl1_n : ∀ w : Nat, w < 31 → bShl 1 (w : Int) = ((2 ^ w : Nat) : Int) := by decide +kernel
/-- the bits of a that b has not -/
theorem bNot_tb (b : Nat) (hb : b < 2147483648) (i : Nat) (hi : i < 31) : (nI b ^^^ (-1 : Int32)).toBitVec.getLsbD i = !b.testBit i := by
  rw [Int32.toBitVec_xor, BitVec.getLsbD_xor]
  have h1 : (-1 : Int32).toBitVec.getLsbD i = true := by
    have : ∀ i, i < 32 → (-1 : Int32).toBitVec.getLsbD i = true := by decide +kernel
    exact this i (by omega)
  have h2 : (nI b).toBitVec.getLsbD i = b.testBit i := by
    show (BitVec.ofNat 32 b).getLsbD i = _
    rw [BitVec.getLsbD_ofNat]
    simp [show i < 32 by omega]
  rw [h1, h2, Bool.xor_true]
def nDiff (a b : Nat) : Nat := a &&& (b ^^^ 2147483647)
theorem nDiff_tb (a b i : Nat) (ha : a < 2147483648) : (nDiff a b).testBit i = (a.testBit i && !b.testBit i) := by
  unfold nDiff
  rw [Nat.testBit_and, Nat.testBit_xor]
  by_cases hi : i < 31
  · rw [show (2147483647 : Nat) = 2 ^ 31 - 1 from rfl, Nat.testBit_two_pow_sub_one]
    simp [hi]
  · have h : a.testBit i = false := Nat.testBit_lt_two_pow (Nat.lt_of_lt_of_le ha (show 2147483648 ≤ 2 ^ i from Nat.pow_le_pow_right (n := 2) (i := 31) (by decide) (by omega)))
    rw [h]
    rfl
theorem nDiff_lt {a b : Nat} (ha : a < 2147483648) : nDiff a b < 2147483648 := Nat.lt_of_le_of_lt Nat.and_le_left ha
theorem bNot_n {b : Nat} (hb : b < 2147483648) (a : Nat) (ha : a < 2147483648) : bAnd (a : Int) (bXor (b : Int) (-1)) = ((nDiff a b : Nat) : Int) := by
  unfold bAnd bXor
  rw [oI_n, oI_n, Int32.ofInt_toInt, show Int32.ofInt (-1) = (-1 : Int32) from rfl]
  have h : nI a &&& (nI b ^^^ (-1 : Int32)) = nI (nDiff a b) := by
    apply Int32.toBitVec_inj.mp
    apply BitVec.eq_of_getLsbD_eq
    intro i hi
    have e1 : (nI a).toBitVec.getLsbD i = a.testBit i := by
      show (BitVec.ofNat 32 a).getLsbD i = _
      rw [BitVec.getLsbD_ofNat]
      simp [hi]
    have e2 : (nI (nDiff a b)).toBitVec.getLsbD i = (nDiff a b).testBit i := by
      show (BitVec.ofNat 32 (nDiff a b)).getLsbD i = _
      rw [BitVec.getLsbD_ofNat]
      simp [hi]
    rw [Int32.toBitVec_and, BitVec.getLsbD_and, e1, e2, nDiff_tb a b i ha]
    by_cases h31 : i < 31
    · rw [bNot_tb b hb i h31]
    · have h : a.testBit i = false := Nat.testBit_lt_two_pow (Nat.lt_of_lt_of_le ha (show 2147483648 ≤ 2 ^ i from Nat.pow_le_pow_right (n := 2) (i := 31) (by decide) (by omega)))
      rw [h]
      rfl
  rw [h, nI_toInt (nDiff_lt ha)]
theorem bShr_n {a k : Nat} (ha : a < 2147483648) (hk : k < 32) : bShr (a : Int) (k : Int) = ((a >>> k : Nat) : Int) := by
  unfold bShr
  rw [oI_n, oI_n]
  have h0 : ∀ k, k < 32 → ((nI k &&& 31).toBitVec.smod 32).toNat = k := by decide +kernel
  have hlt : a >>> k < 2147483648 := Nat.lt_of_le_of_lt (Nat.shiftRight_le a k) ha
  have h : nI a >>> (nI k &&& 31) = nI (a >>> k) := by
    apply Int32.toBitVec_inj.mp
    rw [Int32.toBitVec_shiftRight]
    show (BitVec.ofNat 32 a).sshiftRight ((nI k &&& 31).toBitVec.smod 32).toNat = BitVec.ofNat 32 (a >>> k)
    rw [h0 k hk]
    apply BitVec.eq_of_getLsbD_eq
    intro i hi
    rw [BitVec.getLsbD_sshiftRight, BitVec.getLsbD_ofNat, BitVec.getLsbD_ofNat, Nat.testBit_shiftRight, BitVec.msb_eq_getLsbD_last, BitVec.getLsbD_ofNat]
    have hz : ∀ j, 31 ≤ j → a.testBit j = false := fun j hj => Nat.testBit_lt_two_pow (Nat.lt_of_lt_of_le ha (show 2147483648 ≤ 2 ^ j from Nat.pow_le_pow_right (n := 2) (i := 31) (by decide) hj))
    by_cases h1 : k + i < 32
    · simp [hi, h1]
    · have h2 := hz (k + i) (by omega)
      simp [hi, h1, h2, hz 31 (by omega)]
  rw [h, nI_toInt hlt]
theorem shr1_tb (a k : Nat) : ((a >>> k) &&& 1 = 1) ↔ a.testBit k = true := by
  unfold Nat.testBit
  rw [Nat.and_comm]
  simp
/-- the number of bits -/
def pc : Nat → Nat → Nat
  | 0, _ => 0
  | n + 1, m => (if m.testBit n then 1 else 0) + pc n m
