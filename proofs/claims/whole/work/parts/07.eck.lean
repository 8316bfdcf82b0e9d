/-! Every row decodes to what the tables tell. -/
theorem eDc_of {lo n : Nat} (h : eChkM lo n = true) {M pc : Nat} (h1 : lo ≤ M) (h2 : M < lo + n) (h3 : pc < eLB M) : eChk M pc = true := by
  have h4 := List.all_eq_true.mp h (M - lo) (List.mem_range.mpr (by omega))
  rw [show lo + (M - lo) = M by omega] at h4
  exact List.all_eq_true.mp h4 pc (List.mem_range.mpr h3)
theorem eDl_of {lo n : Nat} (h : eChkL lo n = true) {pc : Nat} (h1 : lo ≤ pc) (h2 : pc < lo + n) : eChk m_L_law pc = true := by
  have h4 := List.all_eq_true.mp h (pc - lo) (List.mem_range.mpr (by omega))
  rw [show lo + (pc - lo) = pc by omega] at h4
  exact h4
theorem eDl_all {pc : Nat} (h : pc < 3072) : eChk 344 pc = true := by
  rcases Nat.lt_or_ge pc 60 with h0 | h0
  · exact eDl_of eDl_0 (by omega) (by omega)
  rcases Nat.lt_or_ge pc 120 with h1 | h1
  · exact eDl_of eDl_1 (by omega) (by omega)
  rcases Nat.lt_or_ge pc 180 with h2 | h2
  · exact eDl_of eDl_2 (by omega) (by omega)
  rcases Nat.lt_or_ge pc 240 with h3 | h3
  · exact eDl_of eDl_3 (by omega) (by omega)
  rcases Nat.lt_or_ge pc 300 with h4 | h4
  · exact eDl_of eDl_4 (by omega) (by omega)
  rcases Nat.lt_or_ge pc 360 with h5 | h5
  · exact eDl_of eDl_5 (by omega) (by omega)
  rcases Nat.lt_or_ge pc 420 with h6 | h6
  · exact eDl_of eDl_6 (by omega) (by omega)
  rcases Nat.lt_or_ge pc 480 with h7 | h7
  · exact eDl_of eDl_7 (by omega) (by omega)
  rcases Nat.lt_or_ge pc 540 with h8 | h8
  · exact eDl_of eDl_8 (by omega) (by omega)
  rcases Nat.lt_or_ge pc 600 with h9 | h9
  · exact eDl_of eDl_9 (by omega) (by omega)
  rcases Nat.lt_or_ge pc 660 with h10 | h10
  · exact eDl_of eDl_10 (by omega) (by omega)
  rcases Nat.lt_or_ge pc 720 with h11 | h11
  · exact eDl_of eDl_11 (by omega) (by omega)
  rcases Nat.lt_or_ge pc 780 with h12 | h12
  · exact eDl_of eDl_12 (by omega) (by omega)
  rcases Nat.lt_or_ge pc 840 with h13 | h13
  · exact eDl_of eDl_13 (by omega) (by omega)
  rcases Nat.lt_or_ge pc 900 with h14 | h14
  · exact eDl_of eDl_14 (by omega) (by omega)
  rcases Nat.lt_or_ge pc 960 with h15 | h15
  · exact eDl_of eDl_15 (by omega) (by omega)
  rcases Nat.lt_or_ge pc 1020 with h16 | h16
  · exact eDl_of eDl_16 (by omega) (by omega)
  rcases Nat.lt_or_ge pc 1080 with h17 | h17
  · exact eDl_of eDl_17 (by omega) (by omega)
  rcases Nat.lt_or_ge pc 1140 with h18 | h18
  · exact eDl_of eDl_18 (by omega) (by omega)
  rcases Nat.lt_or_ge pc 1200 with h19 | h19
  · exact eDl_of eDl_19 (by omega) (by omega)
  rcases Nat.lt_or_ge pc 1260 with h20 | h20
  · exact eDl_of eDl_20 (by omega) (by omega)
  rcases Nat.lt_or_ge pc 1320 with h21 | h21
  · exact eDl_of eDl_21 (by omega) (by omega)
  rcases Nat.lt_or_ge pc 1380 with h22 | h22
  · exact eDl_of eDl_22 (by omega) (by omega)
  rcases Nat.lt_or_ge pc 1440 with h23 | h23
  · exact eDl_of eDl_23 (by omega) (by omega)
  rcases Nat.lt_or_ge pc 1500 with h24 | h24
  · exact eDl_of eDl_24 (by omega) (by omega)
  rcases Nat.lt_or_ge pc 1560 with h25 | h25
  · exact eDl_of eDl_25 (by omega) (by omega)
  rcases Nat.lt_or_ge pc 1620 with h26 | h26
  · exact eDl_of eDl_26 (by omega) (by omega)
  rcases Nat.lt_or_ge pc 1680 with h27 | h27
  · exact eDl_of eDl_27 (by omega) (by omega)
  rcases Nat.lt_or_ge pc 1740 with h28 | h28
  · exact eDl_of eDl_28 (by omega) (by omega)
  rcases Nat.lt_or_ge pc 1800 with h29 | h29
  · exact eDl_of eDl_29 (by omega) (by omega)
  rcases Nat.lt_or_ge pc 1860 with h30 | h30
  · exact eDl_of eDl_30 (by omega) (by omega)
  rcases Nat.lt_or_ge pc 1920 with h31 | h31
  · exact eDl_of eDl_31 (by omega) (by omega)
  rcases Nat.lt_or_ge pc 1980 with h32 | h32
  · exact eDl_of eDl_32 (by omega) (by omega)
  rcases Nat.lt_or_ge pc 2040 with h33 | h33
  · exact eDl_of eDl_33 (by omega) (by omega)
  rcases Nat.lt_or_ge pc 2100 with h34 | h34
  · exact eDl_of eDl_34 (by omega) (by omega)
  rcases Nat.lt_or_ge pc 2160 with h35 | h35
  · exact eDl_of eDl_35 (by omega) (by omega)
  rcases Nat.lt_or_ge pc 2220 with h36 | h36
  · exact eDl_of eDl_36 (by omega) (by omega)
  rcases Nat.lt_or_ge pc 2280 with h37 | h37
  · exact eDl_of eDl_37 (by omega) (by omega)
  rcases Nat.lt_or_ge pc 2340 with h38 | h38
  · exact eDl_of eDl_38 (by omega) (by omega)
  rcases Nat.lt_or_ge pc 2400 with h39 | h39
  · exact eDl_of eDl_39 (by omega) (by omega)
  rcases Nat.lt_or_ge pc 2460 with h40 | h40
  · exact eDl_of eDl_40 (by omega) (by omega)
  rcases Nat.lt_or_ge pc 2520 with h41 | h41
  · exact eDl_of eDl_41 (by omega) (by omega)
  rcases Nat.lt_or_ge pc 2580 with h42 | h42
  · exact eDl_of eDl_42 (by omega) (by omega)
  rcases Nat.lt_or_ge pc 2640 with h43 | h43
  · exact eDl_of eDl_43 (by omega) (by omega)
  rcases Nat.lt_or_ge pc 2700 with h44 | h44
  · exact eDl_of eDl_44 (by omega) (by omega)
  rcases Nat.lt_or_ge pc 2760 with h45 | h45
  · exact eDl_of eDl_45 (by omega) (by omega)
  rcases Nat.lt_or_ge pc 2820 with h46 | h46
  · exact eDl_of eDl_46 (by omega) (by omega)
  rcases Nat.lt_or_ge pc 2880 with h47 | h47
  · exact eDl_of eDl_47 (by omega) (by omega)
  rcases Nat.lt_or_ge pc 2940 with h48 | h48
  · exact eDl_of eDl_48 (by omega) (by omega)
  rcases Nat.lt_or_ge pc 3000 with h49 | h49
  · exact eDl_of eDl_49 (by omega) (by omega)
  rcases Nat.lt_or_ge pc 3060 with h50 | h50
  · exact eDl_of eDl_50 (by omega) (by omega)
  exact eDl_of eDl_51 (by omega) (by omega)
theorem eDc_all {M pc : Nat} (hM : M < 344) (h : pc < eLB M) : eChk M pc = true := by
  rcases Nat.lt_or_ge M 12 with h0 | h0
  · exact eDc_of eDc_0 (by omega) (by omega) h
  rcases Nat.lt_or_ge M 24 with h1 | h1
  · exact eDc_of eDc_1 (by omega) (by omega) h
  rcases Nat.lt_or_ge M 36 with h2 | h2
  · exact eDc_of eDc_2 (by omega) (by omega) h
  rcases Nat.lt_or_ge M 48 with h3 | h3
  · exact eDc_of eDc_3 (by omega) (by omega) h
  rcases Nat.lt_or_ge M 60 with h4 | h4
  · exact eDc_of eDc_4 (by omega) (by omega) h
  rcases Nat.lt_or_ge M 72 with h5 | h5
  · exact eDc_of eDc_5 (by omega) (by omega) h
  rcases Nat.lt_or_ge M 84 with h6 | h6
  · exact eDc_of eDc_6 (by omega) (by omega) h
  rcases Nat.lt_or_ge M 96 with h7 | h7
  · exact eDc_of eDc_7 (by omega) (by omega) h
  rcases Nat.lt_or_ge M 108 with h8 | h8
  · exact eDc_of eDc_8 (by omega) (by omega) h
  rcases Nat.lt_or_ge M 120 with h9 | h9
  · exact eDc_of eDc_9 (by omega) (by omega) h
  rcases Nat.lt_or_ge M 132 with h10 | h10
  · exact eDc_of eDc_10 (by omega) (by omega) h
  rcases Nat.lt_or_ge M 144 with h11 | h11
  · exact eDc_of eDc_11 (by omega) (by omega) h
  rcases Nat.lt_or_ge M 156 with h12 | h12
  · exact eDc_of eDc_12 (by omega) (by omega) h
  rcases Nat.lt_or_ge M 168 with h13 | h13
  · exact eDc_of eDc_13 (by omega) (by omega) h
  rcases Nat.lt_or_ge M 180 with h14 | h14
  · exact eDc_of eDc_14 (by omega) (by omega) h
  rcases Nat.lt_or_ge M 192 with h15 | h15
  · exact eDc_of eDc_15 (by omega) (by omega) h
  rcases Nat.lt_or_ge M 204 with h16 | h16
  · exact eDc_of eDc_16 (by omega) (by omega) h
  rcases Nat.lt_or_ge M 216 with h17 | h17
  · exact eDc_of eDc_17 (by omega) (by omega) h
  rcases Nat.lt_or_ge M 228 with h18 | h18
  · exact eDc_of eDc_18 (by omega) (by omega) h
  rcases Nat.lt_or_ge M 240 with h19 | h19
  · exact eDc_of eDc_19 (by omega) (by omega) h
  rcases Nat.lt_or_ge M 252 with h20 | h20
  · exact eDc_of eDc_20 (by omega) (by omega) h
  rcases Nat.lt_or_ge M 264 with h21 | h21
  · exact eDc_of eDc_21 (by omega) (by omega) h
  rcases Nat.lt_or_ge M 276 with h22 | h22
  · exact eDc_of eDc_22 (by omega) (by omega) h
  rcases Nat.lt_or_ge M 288 with h23 | h23
  · exact eDc_of eDc_23 (by omega) (by omega) h
  rcases Nat.lt_or_ge M 300 with h24 | h24
  · exact eDc_of eDc_24 (by omega) (by omega) h
  rcases Nat.lt_or_ge M 312 with h25 | h25
  · exact eDc_of eDc_25 (by omega) (by omega) h
  rcases Nat.lt_or_ge M 324 with h26 | h26
  · exact eDc_of eDc_26 (by omega) (by omega) h
  rcases Nat.lt_or_ge M 336 with h27 | h27
  · exact eDc_of eDc_27 (by omega) (by omega) h
  exact eDc_of eDc_28 (by omega) (by omega) h
theorem eChk_all (M pc : Nat) : eChk M pc = true := by
  by_cases hp : pc < eLB M
  · by_cases hM : M < 344
    · exact eDc_all hM hp
    · by_cases h4 : M = 344
      · subst h4
        exact eDl_all hp
      · have hb : Nat.blt M 345 = false := by
          cases hb : Nat.blt M 345 with
          | true => exact absurd ((Nat.blt_eq).mp hb) (by omega)
          | false => rfl
        unfold eLB at hp
        rw [hb] at hp
        exact absurd hp (Nat.not_lt_zero _)
  · have hb : Nat.blt pc (eLB M) = false := by
      cases hb : Nat.blt pc (eLB M) with
      | true => exact absurd ((Nat.blt_eq).mp hb) hp
      | false => rfl
    unfold eChk eCode
    rw [hb]
    rfl
