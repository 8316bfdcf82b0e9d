/-! Codes of words: one letter more. -/
theorem bShl5 {a : Nat} (ha : a < 33554432) : bShl (a : Int) 5 = ((a * 32 : Nat) : Int) := by
  unfold bShl
  rw [show (5 : Int) = ((5 : Nat) : Int) from rfl, oI_n, oI_n]
  have h : nI a <<< (nI 5 &&& 31) = nI (a * 32) := by
    apply Int32.toBitVec_inj.mp
    show (BitVec.ofNat 32 a) <<< ((nI 5 &&& 31).toBitVec.smod 32) = BitVec.ofNat 32 (a * 32)
    have h0 : ((nI 5 &&& 31).toBitVec.smod 32).toNat = 5 := by decide +kernel
    rw [BitVec.shiftLeft_eq', h0]
    apply BitVec.eq_of_toNat_eq
    rw [BitVec.toNat_shiftLeft, BitVec.toNat_ofNat, BitVec.toNat_ofNat, Nat.mod_eq_of_lt (show a < 2 ^ 32 by omega), Nat.shiftLeft_eq]
  rw [h, nI_toInt (by omega)]
theorem bOr32 {a d : Nat} (ha : a < 33554432) (hd : d < 32) : bOr ((a * 32 : Nat) : Int) (d : Int) = ((a * 32 + d : Nat) : Int) := by
  rw [bOr_n (by omega) (by omega)]
  have h := Nat.shiftLeft_add_eq_or_of_lt (i := 5) (show d < 2 ^ 5 by omega) a
  rw [Nat.shiftLeft_eq] at h
  rw [← h]
