theorem eChk_all (M pc : Nat) : eChk M pc = true := sorry
