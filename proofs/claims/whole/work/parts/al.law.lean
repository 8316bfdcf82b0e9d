/-! The law, from its start to its end. -/
theorem bAnd63 {x : Int} : 0 ≤ bAnd x 63 ∧ bAnd x 63 < 64 := by
  have h : bAnd x 63 = ((n32 x % 64 : Nat) : Int) := by
    unfold bAnd
    rw [n32_nI, show (63 : Int) = ((63 : Nat) : Int) from rfl, oI_n, nI_and, show n32 x &&& 63 = n32 x % 64 from Nat.and_two_pow_sub_one_eq_mod (n32 x) 6, nI_toInt (by omega)]
  omega
theorem wdOk0 {V : List eC} : wdOk V (fun _ => none) := ⟨fun i b S hi e => (by cases e), fun i j b S b2 S2 h1 h2 h3 e => (by cases e)⟩
theorem CH_0 {V : List eC} {h : Nat → eRow} (c66 : eNth V 66 = some (eO 1 [eR 67, eI 0, eI 0])) (c67 : eNth V 67 = some (eQ 8 (fun _ => none))) (c68 : eNth V 68 = some (eQ 2 (fun _ => none))) (hl : 82 ≤ V.length) : CH V 0 h (fun _ => none) := ⟨fun _ => none, fun _ => none, fun _ => none, 0, 0, 0, ⟨c66, c67, c68⟩, ⟨rfl, Nat.zero_le 8, rfl, by omega⟩, fun i hi => rfl, fun i hi => rfl, fun j hj => absurd hj (Nat.not_lt_zero j), fun i hi => rfl, wdOk0, hl⟩
set_option maxRecDepth 100000
theorem law_sw {V : List eC} {d : Nat × Nat} {L j : Nat} {f : Nat → Int} {i x : Int} {Q : (Option eV ⊕ Nat) × eW → Prop} (hi : i = (j : Int)) (hj : j + 6 ≤ L) (hL : L ≤ 3072) (hr : ∀ k, -2147483648 ≤ f k ∧ f k < 2147483648) (h : LI V L f) (hK : ∀ V' d', LI V' L f → dl d d' → Rs (ev m_L_law 3064 [some (eR 0), some (eR 1), some (eR 70), some (eR 81), some (eI i)] [] (V', d')) Q) (hx : 0 ≤ x ∧ x < 64) : Rs (ev m_L_law 40 [some (eR 0), some (eR 1), some (eR 70), some (eR 81), some (eI i)] [eI x] (V, d)) Q := by
  by_cases hc32 : x < 32
  · by_cases hc16 : x < 16
    · by_cases hc8 : x < 8
      · by_cases hc4 : x < 4
        · by_cases hc2 : x < 2
          · by_cases hc1 : x < 1
            · have hx9 : x = 0 := by omega
              subst hx9
              refine rOf (fun R9 hR9 => xSeg (N := 1) (r := ev m_L_law 300 [some (eR 0), some (eR 1), some (eR 70), some (eR 81), some (eI i)] [] (V, d)) rfl hR9) ?_
              exact k_appendInput hi hj hL hr h hK
            · have hx9 : x = 1 := by omega
              subst hx9
              refine rOf (fun R9 hR9 => xSeg (N := 1) (r := ev m_L_law 404 [some (eR 0), some (eR 1), some (eR 70), some (eR 81), some (eI i)] [] (V, d)) rfl hR9) ?_
              exact k_truncateInput hi hj hL hr h hK
          · by_cases hc3 : x < 3
            · have hx9 : x = 2 := by omega
              subst hx9
              refine rOf (fun R9 hR9 => xSeg (N := 1) (r := ev m_L_law 460 [some (eR 0), some (eR 1), some (eR 70), some (eR 81), some (eI i)] [] (V, d)) rfl hR9) ?_
              exact k_load hi hj hL hr h hK
            · have hx9 : x = 3 := by omega
              subst hx9
              refine rOf (fun R9 hR9 => xSeg (N := 1) (r := ev m_L_law 504 [some (eR 0), some (eR 1), some (eR 70), some (eR 81), some (eI i)] [] (V, d)) rfl hR9) ?_
              exact k_errorCode hi hj hL hr h hK
        · by_cases hc6 : x < 6
          · by_cases hc5 : x < 5
            · have hx9 : x = 4 := by omega
              subst hx9
              refine rOf (fun R9 hR9 => xSeg (N := 1) (r := ev m_L_law 517 [some (eR 0), some (eR 1), some (eR 70), some (eR 81), some (eI i)] [] (V, d)) rfl hR9) ?_
              exact k_errorPosition hi hj hL hr h hK
            · have hx9 : x = 5 := by omega
              subst hx9
              refine rOf (fun R9 hR9 => xSeg (N := 1) (r := ev m_L_law 530 [some (eR 0), some (eR 1), some (eR 70), some (eR 81), some (eI i)] [] (V, d)) rfl hR9) ?_
              exact k_columns hi hj hL hr h hK
          · by_cases hc7 : x < 7
            · have hx9 : x = 6 := by omega
              subst hx9
              refine rOf (fun R9 hR9 => xSeg (N := 1) (r := ev m_L_law 543 [some (eR 0), some (eR 1), some (eR 70), some (eR 81), some (eI i)] [] (V, d)) rfl hR9) ?_
              exact k_rows hi hj hL hr h hK
            · have hx9 : x = 7 := by omega
              subst hx9
              refine rOf (fun R9 hR9 => xSeg (N := 1) (r := ev m_L_law 556 [some (eR 0), some (eR 1), some (eR 70), some (eR 81), some (eI i)] [] (V, d)) rfl hR9) ?_
              exact k_slotCount hi hj hL hr h hK
      · by_cases hc12 : x < 12
        · by_cases hc10 : x < 10
          · by_cases hc9 : x < 9
            · have hx9 : x = 8 := by omega
              subst hx9
              refine rOf (fun R9 hR9 => xSeg (N := 1) (r := ev m_L_law 569 [some (eR 0), some (eR 1), some (eR 70), some (eR 81), some (eI i)] [] (V, d)) rfl hR9) ?_
              exact k_wordCount hi hj hL hr h hK
            · have hx9 : x = 9 := by omega
              subst hx9
              refine rOf (fun R9 hR9 => xSeg (N := 1) (r := ev m_L_law 582 [some (eR 0), some (eR 1), some (eR 70), some (eR 81), some (eI i)] [] (V, d)) rfl hR9) ?_
              exact k_findWord hi hj hL hr h hK
          · by_cases hc11 : x < 11
            · have hx9 : x = 10 := by omega
              subst hx9
              refine rOf (fun R9 hR9 => xSeg (N := 1) (r := ev m_L_law 595 [some (eR 0), some (eR 1), some (eR 70), some (eR 81), some (eI i)] [] (V, d)) rfl hR9) ?_
              exact k_isBlocked hi hj hL hr h hK
            · have hx9 : x = 11 := by omega
              subst hx9
              refine rOf (fun R9 hR9 => xSeg (N := 1) (r := ev m_L_law 670 [some (eR 0), some (eR 1), some (eR 70), some (eR 81), some (eI i)] [] (V, d)) rfl hR9) ?_
              exact k_givenLetter hi hj hL hr h hK
        · by_cases hc14 : x < 14
          · by_cases hc13 : x < 13
            · have hx9 : x = 12 := by omega
              subst hx9
              refine rOf (fun R9 hR9 => xSeg (N := 1) (r := ev m_L_law 738 [some (eR 0), some (eR 1), some (eR 70), some (eR 81), some (eI i)] [] (V, d)) rfl hR9) ?_
              exact k_sureLetter hi hj hL hr h hK
            · have hx9 : x = 13 := by omega
              subst hx9
              refine rOf (fun R9 hR9 => xSeg (N := 1) (r := ev m_L_law 806 [some (eR 0), some (eR 1), some (eR 70), some (eR 81), some (eI i)] [] (V, d)) rfl hR9) ?_
              exact k_slotAt hi hj hL hr h hK
          · by_cases hc15 : x < 15
            · have hx9 : x = 14 := by omega
              subst hx9
              refine rOf (fun R9 hR9 => xSeg (N := 1) (r := ev m_L_law 902 [some (eR 0), some (eR 1), some (eR 70), some (eR 81), some (eI i)] [] (V, d)) rfl hR9) ?_
              exact k_firstX hi hj hL hr h hK
            · have hx9 : x = 15 := by omega
              subst hx9
              refine rOf (fun R9 hR9 => xSeg (N := 1) (r := ev m_L_law 958 [some (eR 0), some (eR 1), some (eR 70), some (eR 81), some (eI i)] [] (V, d)) rfl hR9) ?_
              exact k_firstY hi hj hL hr h hK
    · by_cases hc24 : x < 24
      · by_cases hc20 : x < 20
        · by_cases hc18 : x < 18
          · by_cases hc17 : x < 17
            · have hx9 : x = 16 := by omega
              subst hx9
              refine rOf (fun R9 hR9 => xSeg (N := 1) (r := ev m_L_law 1014 [some (eR 0), some (eR 1), some (eR 70), some (eR 81), some (eI i)] [] (V, d)) rfl hR9) ?_
              exact k_lengthOf hi hj hL hr h hK
            · have hx9 : x = 17 := by omega
              subst hx9
              refine rOf (fun R9 hR9 => xSeg (N := 1) (r := ev m_L_law 1070 [some (eR 0), some (eR 1), some (eR 70), some (eR 81), some (eI i)] [] (V, d)) rfl hR9) ?_
              exact k_isDown hi hj hL hr h hK
          · by_cases hc19 : x < 19
            · have hx9 : x = 18 := by omega
              subst hx9
              refine rOf (fun R9 hR9 => xSeg (N := 1) (r := ev m_L_law 1133 [some (eR 0), some (eR 1), some (eR 70), some (eR 81), some (eI i)] [] (V, d)) rfl hR9) ?_
              exact k_crossingCount hi hj hL hr h hK
            · have hx9 : x = 19 := by omega
              subst hx9
              refine rOf (fun R9 hR9 => xSeg (N := 1) (r := ev m_L_law 1189 [some (eR 0), some (eR 1), some (eR 70), some (eR 81), some (eI i)] [] (V, d)) rfl hR9) ?_
              exact k_crossingSlot hi hj hL hr h hK
        · by_cases hc22 : x < 22
          · by_cases hc21 : x < 21
            · have hx9 : x = 20 := by omega
              subst hx9
              refine rOf (fun R9 hR9 => xSeg (N := 1) (r := ev m_L_law 1257 [some (eR 0), some (eR 1), some (eR 70), some (eR 81), some (eI i)] [] (V, d)) rfl hR9) ?_
              exact k_crossingPlace hi hj hL hr h hK
            · have hx9 : x = 21 := by omega
              subst hx9
              refine rOf (fun R9 hR9 => xSeg (N := 1) (r := ev m_L_law 1325 [some (eR 0), some (eR 1), some (eR 70), some (eR 81), some (eI i)] [] (V, d)) rfl hR9) ?_
              exact k_wordLength hi hj hL hr h hK
          · by_cases hc23 : x < 23
            · have hx9 : x = 22 := by omega
              subst hx9
              refine rOf (fun R9 hR9 => xSeg (N := 1) (r := ev m_L_law 1381 [some (eR 0), some (eR 1), some (eR 70), some (eR 81), some (eI i)] [] (V, d)) rfl hR9) ?_
              exact k_letterOf hi hj hL hr h hK
            · have hx9 : x = 23 := by omega
              subst hx9
              refine rOf (fun R9 hR9 => xSeg (N := 1) (r := ev m_L_law 1449 [some (eR 0), some (eR 1), some (eR 70), some (eR 81), some (eI i)] [] (V, d)) rfl hR9) ?_
              exact k_prizeOf hi hj hL hr h hK
      · by_cases hc28 : x < 28
        · by_cases hc26 : x < 26
          · by_cases hc25 : x < 25
            · have hx9 : x = 24 := by omega
              subst hx9
              refine rOf (fun R9 hR9 => xSeg (N := 1) (r := ev m_L_law 1505 [some (eR 0), some (eR 1), some (eR 70), some (eR 81), some (eI i)] [] (V, d)) rfl hR9) ?_
              exact k_wordsWith hi hj hL hr h hK
            · have hx9 : x = 25 := by omega
              subst hx9
              refine rOf (fun R9 hR9 => xSeg (N := 1) (r := ev m_L_law 1561 [some (eR 0), some (eR 1), some (eR 70), some (eR 81), some (eI i)] [] (V, d)) rfl hR9) ?_
              exact k_prizeOfLetter hi hj hL hr h hK
          · by_cases hc27 : x < 27
            · have hx9 : x = 26 := by omega
              subst hx9
              refine rOf (fun R9 hR9 => xSeg (N := 1) (r := ev m_L_law 1617 [some (eR 0), some (eR 1), some (eR 70), some (eR 81), some (eI i)] [] (V, d)) rfl hR9) ?_
              exact k_candidateCount hi hj hL hr h hK
            · have hx9 : x = 27 := by omega
              subst hx9
              refine rOf (fun R9 hR9 => xSeg (N := 1) (r := ev m_L_law 1673 [some (eR 0), some (eR 1), some (eR 70), some (eR 81), some (eI i)] [] (V, d)) rfl hR9) ?_
              exact k_isCandidate hi hj hL hr h hK
        · by_cases hc30 : x < 30
          · by_cases hc29 : x < 29
            · have hx9 : x = 28 := by omega
              subst hx9
              refine rOf (fun R9 hR9 => xSeg (N := 1) (r := ev m_L_law 1748 [some (eR 0), some (eR 1), some (eR 70), some (eR 81), some (eI i)] [] (V, d)) rfl hR9) ?_
              exact k_candidateAt hi hj hL hr h hK
            · have hx9 : x = 29 := by omega
              subst hx9
              refine rOf (fun R9 hR9 => xSeg (N := 1) (r := ev m_L_law 1816 [some (eR 0), some (eR 1), some (eR 70), some (eR 81), some (eI i)] [] (V, d)) rfl hR9) ?_
              exact k_state hi hj hL hr h hK
          · by_cases hc31 : x < 31
            · have hx9 : x = 30 := by omega
              subst hx9
              refine rOf (fun R9 hR9 => xSeg (N := 1) (r := ev m_L_law 1829 [some (eR 0), some (eR 1), some (eR 70), some (eR 81), some (eI i)] [] (V, d)) rfl hR9) ?_
              exact k_level hi hj hL hr h hK
            · have hx9 : x = 31 := by omega
              subst hx9
              refine rOf (fun R9 hR9 => xSeg (N := 1) (r := ev m_L_law 1842 [some (eR 0), some (eR 1), some (eR 70), some (eR 81), some (eI i)] [] (V, d)) rfl hR9) ?_
              exact k_guessedSlot hi hj hL hr h hK
  · by_cases hc48 : x < 48
    · by_cases hc40 : x < 40
      · by_cases hc36 : x < 36
        · by_cases hc34 : x < 34
          · by_cases hc33 : x < 33
            · have hx9 : x = 32 := by omega
              subst hx9
              refine rOf (fun R9 hR9 => xSeg (N := 1) (r := ev m_L_law 1898 [some (eR 0), some (eR 1), some (eR 70), some (eR 81), some (eI i)] [] (V, d)) rfl hR9) ?_
              exact k_guessedWord hi hj hL hr h hK
            · have hx9 : x = 33 := by omega
              subst hx9
              refine rOf (fun R9 hR9 => xSeg (N := 1) (r := ev m_L_law 1954 [some (eR 0), some (eR 1), some (eR 70), some (eR 81), some (eI i)] [] (V, d)) rfl hR9) ?_
              exact k_bestSlot hi hj hL hr h hK
          · by_cases hc35 : x < 35
            · have hx9 : x = 34 := by omega
              subst hx9
              refine rOf (fun R9 hR9 => xSeg (N := 1) (r := ev m_L_law 1967 [some (eR 0), some (eR 1), some (eR 70), some (eR 81), some (eI i)] [] (V, d)) rfl hR9) ?_
              exact k_bestWord hi hj hL hr h hK
            · have hx9 : x = 35 := by omega
              subst hx9
              refine rOf (fun R9 hR9 => xSeg (N := 1) (r := ev m_L_law 2023 [some (eR 0), some (eR 1), some (eR 70), some (eR 81), some (eI i)] [] (V, d)) rfl hR9) ?_
              exact k_guessRefusal hi hj hL hr h hK
        · by_cases hc38 : x < 38
          · by_cases hc37 : x < 37
            · have hx9 : x = 36 := by omega
              subst hx9
              refine rOf (fun R9 hR9 => xSeg (N := 1) (r := ev m_L_law 2091 [some (eR 0), some (eR 1), some (eR 70), some (eR 81), some (eI i)] [] (V, d)) rfl hR9) ?_
              exact k_leftAfter hi hj hL hr h hK
            · have hx9 : x = 37 := by omega
              subst hx9
              refine rOf (fun R9 hR9 => xSeg (N := 1) (r := ev m_L_law 2159 [some (eR 0), some (eR 1), some (eR 70), some (eR 81), some (eI i)] [] (V, d)) rfl hR9) ?_
              exact k_wouldStick hi hj hL hr h hK
          · by_cases hc39 : x < 39
            · have hx9 : x = 38 := by omega
              subst hx9
              refine rOf (fun R9 hR9 => xSeg (N := 1) (r := ev m_L_law 2234 [some (eR 0), some (eR 1), some (eR 70), some (eR 81), some (eI i)] [] (V, d)) rfl hR9) ?_
              exact k_emptySlot hi hj hL hr h hK
            · have hx9 : x = 39 := by omega
              subst hx9
              refine rOf (fun R9 hR9 => xSeg (N := 1) (r := ev m_L_law 2247 [some (eR 0), some (eR 1), some (eR 70), some (eR 81), some (eI i)] [] (V, d)) rfl hR9) ?_
              exact k_candidatesLeft hi hj hL hr h hK
      · by_cases hc44 : x < 44
        · by_cases hc42 : x < 42
          · by_cases hc41 : x < 41
            · have hx9 : x = 40 := by omega
              subst hx9
              refine rOf (fun R9 hR9 => xSeg (N := 1) (r := ev m_L_law 2260 [some (eR 0), some (eR 1), some (eR 70), some (eR 81), some (eI i)] [] (V, d)) rfl hR9) ?_
              exact k_prizeNow hi hj hL hr h hK
            · have hx9 : x = 41 := by omega
              subst hx9
              refine rOf (fun R9 hR9 => xSeg (N := 1) (r := ev m_L_law 2273 [some (eR 0), some (eR 1), some (eR 70), some (eR 81), some (eI i)] [] (V, d)) rfl hR9) ?_
              exact k_stepsToEnd hi hj hL hr h hK
          · by_cases hc43 : x < 43
            · have hx9 : x = 42 := by omega
              subst hx9
              refine rOf (fun R9 hR9 => xSeg (N := 1) (r := ev m_L_law 2286 [some (eR 0), some (eR 1), some (eR 70), some (eR 81), some (eI i)] [] (V, d)) rfl hR9) ?_
              exact k_stateAtEnd hi hj hL hr h hK
            · have hx9 : x = 43 := by omega
              subst hx9
              refine rOf (fun R9 hR9 => xSeg (N := 1) (r := ev m_L_law 2299 [some (eR 0), some (eR 1), some (eR 70), some (eR 81), some (eI i)] [] (V, d)) rfl hR9) ?_
              exact k_guesses hi hj hL hr h hK
        · by_cases hc46 : x < 46
          · by_cases hc45 : x < 45
            · have hx9 : x = 44 := by omega
              subst hx9
              refine rOf (fun R9 hR9 => xSeg (N := 1) (r := ev m_L_law 2312 [some (eR 0), some (eR 1), some (eR 70), some (eR 81), some (eI i)] [] (V, d)) rfl hR9) ?_
              exact k_takenBack hi hj hL hr h hK
            · have hx9 : x = 45 := by omega
              subst hx9
              refine rOf (fun R9 hR9 => xSeg (N := 1) (r := ev m_L_law 2325 [some (eR 0), some (eR 1), some (eR 70), some (eR 81), some (eI i)] [] (V, d)) rfl hR9) ?_
              exact k_supportErrors hi hj hL hr h hK
          · by_cases hc47 : x < 47
            · have hx9 : x = 46 := by omega
              subst hx9
              refine rOf (fun R9 hR9 => xSeg (N := 1) (r := ev m_L_law 2338 [some (eR 0), some (eR 1), some (eR 70), some (eR 81), some (eI i)] [] (V, d)) rfl hR9) ?_
              exact k_doubleErrors hi hj hL hr h hK
            · have hx9 : x = 47 := by omega
              subst hx9
              refine rOf (fun R9 hR9 => xSeg (N := 1) (r := ev m_L_law 2351 [some (eR 0), some (eR 1), some (eR 70), some (eR 81), some (eI i)] [] (V, d)) rfl hR9) ?_
              exact k_levelDifference hi hj hL hr h hK
    · by_cases hc56 : x < 56
      · by_cases hc52 : x < 52
        · by_cases hc50 : x < 50
          · by_cases hc49 : x < 49
            · have hx9 : x = 48 := by omega
              subst hx9
              refine rOf (fun R9 hR9 => xSeg (N := 1) (r := ev m_L_law 2364 [some (eR 0), some (eR 1), some (eR 70), some (eR 81), some (eI i)] [] (V, d)) rfl hR9) ?_
              exact k_sureShare hi hj hL hr h hK
            · have hx9 : x = 49 := by omega
              subst hx9
              refine rOf (fun R9 hR9 => xSeg (N := 1) (r := ev m_L_law 2407 [some (eR 0), some (eR 1), some (eR 70), some (eR 81), some (eI i)] [] (V, d)) rfl hR9) ?_
              exact k_averageCandidates hi hj hL hr h hK
          · by_cases hc51 : x < 51
            · have hx9 : x = 50 := by omega
              subst hx9
              refine rOf (fun R9 hR9 => xSeg (N := 1) (r := ev m_L_law 2448 [some (eR 0), some (eR 1), some (eR 70), some (eR 81), some (eI i)] [] (V, d)) rfl hR9) ?_
              exact k_addWord hi hj hL hr h hK
            · have hx9 : x = 51 := by omega
              subst hx9
              refine rOf (fun R9 hR9 => xSeg (N := 1) (r := ev m_L_law 2504 [some (eR 0), some (eR 1), some (eR 70), some (eR 81), some (eI i)] [] (V, d)) rfl hR9) ?_
              exact k_setLetter hi hj hL hr h hK
        · by_cases hc54 : x < 54
          · by_cases hc53 : x < 53
            · have hx9 : x = 52 := by omega
              subst hx9
              refine rOf (fun R9 hR9 => xSeg (N := 1) (r := ev m_L_law 2584 [some (eR 0), some (eR 1), some (eR 70), some (eR 81), some (eI i)] [] (V, d)) rfl hR9) ?_
              exact k_guess hi hj hL hr h hK
            · have hx9 : x = 53 := by omega
              subst hx9
              refine rOf (fun R9 hR9 => xSeg (N := 1) (r := ev m_L_law 2652 [some (eR 0), some (eR 1), some (eR 70), some (eR 81), some (eI i)] [] (V, d)) rfl hR9) ?_
              exact k_takeBack hi hj hL hr h hK
          · by_cases hc55 : x < 55
            · have hx9 : x = 54 := by omega
              subst hx9
              refine rOf (fun R9 hR9 => xSeg (N := 1) (r := ev m_L_law 2696 [some (eR 0), some (eR 1), some (eR 70), some (eR 81), some (eI i)] [] (V, d)) rfl hR9) ?_
              exact k_step hi hj hL hr h hK
            · have hx9 : x = 55 := by omega
              subst hx9
              refine rOf (fun R9 hR9 => xSeg (N := 1) (r := ev m_L_law 2740 [some (eR 0), some (eR 1), some (eR 70), some (eR 81), some (eI i)] [] (V, d)) rfl hR9) ?_
              exact k_solve hi hj hL hr h hK
      · by_cases hc60 : x < 60
        · by_cases hc58 : x < 58
          · by_cases hc57 : x < 57
            · have hx9 : x = 56 := by omega
              subst hx9
              refine rOf (fun R9 hR9 => xSeg (N := 1) (r := ev m_L_law 2796 [some (eR 0), some (eR 1), some (eR 70), some (eR 81), some (eI i)] [] (V, d)) rfl hR9) ?_
              exact k_writeRow hi hj hL hr h hK
            · have hx9 : x = 57 := by omega
              subst hx9
              refine rOf (fun R9 hR9 => xSeg (N := 1) (r := ev m_L_law 2852 [some (eR 0), some (eR 1), some (eR 70), some (eR 81), some (eI i)] [] (V, d)) rfl hR9) ?_
              exact k_outputByte hi hj hL hr h hK
          · by_cases hc59 : x < 59
            · have hx9 : x = 58 := by omega
              subst hx9
              refine rOf (fun R9 hR9 => xSeg (N := 1) (r := ev m_L_law 2908 [some (eR 0), some (eR 1), some (eR 70), some (eR 81), some (eI i)] [] (V, d)) rfl hR9) ?_
              exact k_save hi hj hL hr h hK
            · have hx9 : x = 59 := by omega
              subst hx9
              refine rOf (fun R9 hR9 => xSeg (N := 1) (r := ev m_L_law 2964 [some (eR 0), some (eR 1), some (eR 70), some (eR 81), some (eI i)] [] (V, d)) rfl hR9) ?_
              exact k_restore hi hj hL hr h hK
        · by_cases hc62 : x < 62
          · by_cases hc61 : x < 61
            · have hx9 : x = 60 := by omega
              subst hx9
              refine rOf (fun R9 hR9 => xSeg (N := 1) (r := ev m_L_law 3020 [some (eR 0), some (eR 1), some (eR 70), some (eR 81), some (eI i)] [] (V, d)) rfl hR9) ?_
              exact k_undo hi hj hL hr h hK
            · have hx9 : x = 61 := by omega
              subst hx9
              refine rOf (fun R9 hR9 => xSeg (N := 1) (r := ev m_L_law 3064 [some (eR 0), some (eR 1), some (eR 70), some (eR 81), some (eI i)] [] (V, d)) rfl hR9) ?_
              exact hK V d h (dl_rf d)
          · by_cases hc63 : x < 63
            · have hx9 : x = 62 := by omega
              subst hx9
              refine rOf (fun R9 hR9 => xSeg (N := 1) (r := ev m_L_law 3064 [some (eR 0), some (eR 1), some (eR 70), some (eR 81), some (eI i)] [] (V, d)) rfl hR9) ?_
              exact hK V d h (dl_rf d)
            · have hx9 : x = 63 := by omega
              subst hx9
              refine rOf (fun R9 hR9 => xSeg (N := 1) (r := ev m_L_law 3064 [some (eR 0), some (eR 1), some (eR 70), some (eR 81), some (eI i)] [] (V, d)) rfl hR9) ?_
              exact hK V d h (dl_rf d)
theorem law_st {V : List eC} {d : Nat × Nat} {i : Int} {Q : (Option eV ⊕ Nat) × eW → Prop} (h : Rs (ev m_L_law 23 [some (eR 0), some (eR 1), some (eR 70), some (eR 81), some (eI (i + 6))] [] (V, d)) Q) : Rs (ev m_L_law 3064 [some (eR 0), some (eR 1), some (eR 70), some (eR 81), some (eI i)] [] (V, d)) Q := by
  refine rOf (fun R9 hR9 => xSeg (N := 2) (r := ev m_L_law 23 [some (eR 0), some (eR 1), some (eR 70), some (eR 81), some (eI (i + 6))] [] (V, d)) rfl hR9) ?_
  exact h
theorem law_loop {L : Nat} {f : Nat → Int} (hL : L ≤ 3072) (hr : ∀ k, -2147483648 ≤ f k ∧ f k < 2147483648) : ∀ (q j : Nat) (V : List eC) (d : Nat × Nat) (i : Int), i = (j : Int) → j ≤ L → L < j + 6 + 6 * q → LI V L f → Rs (ev m_L_law 23 [some (eR 0), some (eR 1), some (eR 70), some (eR 81), some (eI i)] [] (V, d)) (fun r => ∃ w, r = (.inl (some (eI 1)), w) ∧ w.2.1 ≤ d.1 + 24 * q ∧ w.2.2 ≤ d.2 + 2000 * q) := by
  intro q
  induction q with
  | zero =>
    intro j V d i hi hj hq h
    obtain ⟨a, x, t0, ot, C, M, h0, h81⟩ := h
    refine rLenV (N := 3) (M2 := m_L_law) (pc2 := 26) (r := 0) (ls2 := [some (eR 0), some (eR 1), some (eR 70), some (eR 81), some (eI i)]) (st2 := [eI i]) (V := V) (d := d) rfl h0 (fun l26 hl26 => ?_)
    refine rOf (fun R9 hR9 => xLtT (N := 3) (x := l26 - 6) (y := i) (A := ev m_L_law 3070 [some (eR 0), some (eR 1), some (eR 70), some (eR 81), some (eI i)] [] (V, d)) (B := ev m_L_law 33 [some (eR 0), some (eR 1), some (eR 70), some (eR 81), some (eI i)] [] (V, d)) rfl (wr_id (by omega) (by omega)) (wr_id (by omega) (by omega)) (by omega) hR9) ?_
    refine rOf (fun R9 hR9 => xRb (N := 2) (v := 1) (w2 := (V, d)) rfl (by decide) hR9) ?_
    exact rEnd ⟨(V, d), rfl, by dsimp only; omega, by dsimp only; omega⟩
  | succ q ih =>
    intro j V d i hi hj hq h
    have hh := h
    obtain ⟨a, x, t0, ot, C, M, h0, h81⟩ := hh
    by_cases hc : L < j + 6
    · refine rLenV (N := 3) (M2 := m_L_law) (pc2 := 26) (r := 0) (ls2 := [some (eR 0), some (eR 1), some (eR 70), some (eR 81), some (eI i)]) (st2 := [eI i]) (V := V) (d := d) rfl h0 (fun l26 hl26 => ?_)
      refine rOf (fun R9 hR9 => xLtT (N := 3) (x := l26 - 6) (y := i) (A := ev m_L_law 3070 [some (eR 0), some (eR 1), some (eR 70), some (eR 81), some (eI i)] [] (V, d)) (B := ev m_L_law 33 [some (eR 0), some (eR 1), some (eR 70), some (eR 81), some (eI i)] [] (V, d)) rfl (wr_id (by omega) (by omega)) (wr_id (by omega) (by omega)) (by omega) hR9) ?_
      refine rOf (fun R9 hR9 => xRb (N := 2) (v := 1) (w2 := (V, d)) rfl (by decide) hR9) ?_
      exact rEnd ⟨(V, d), rfl, by dsimp only; omega, by dsimp only; omega⟩
    · refine rLenV (N := 3) (M2 := m_L_law) (pc2 := 26) (r := 0) (ls2 := [some (eR 0), some (eR 1), some (eR 70), some (eR 81), some (eI i)]) (st2 := [eI i]) (V := V) (d := d) rfl h0 (fun l26 hl26 => ?_)
      refine rOf (fun R9 hR9 => xLtF (N := 3) (x := l26 - 6) (y := i) (A := ev m_L_law 3070 [some (eR 0), some (eR 1), some (eR 70), some (eR 81), some (eI i)] [] (V, d)) (B := ev m_L_law 33 [some (eR 0), some (eR 1), some (eR 70), some (eR 81), some (eI i)] [] (V, d)) rfl (wr_id (by omega) (by omega)) (wr_id (by omega) (by omega)) (by omega) hR9) ?_
      refine rOf (fun R9 hR9 => xLdV (N := 3) (M2 := m_L_law) (pc2 := 36) (r := 0) (ls2 := [some (eR 0), some (eR 1), some (eR 70), some (eR 81), some (eI i)]) (st2 := []) (V := V) (d := d) (i := i) (k := j) (ok := eOkI) (mk := fun x => .inl x) rfl h0 rfl (wr_nat (by omega) (by omega)) (by omega) hR9) ?_
      refine rOf (fun R9 hR9 => xSeg (N := 2) (r := ev m_L_law 40 [some (eR 0), some (eR 1), some (eR 70), some (eR 81), some (eI i)] [eI (bAnd (f j) 63)] (V, d)) rfl hR9) ?_
      refine law_sw (L := L) hi (by omega) hL hr h ?_ bAnd63
      intro V2 d2 h2 hd
      unfold dl at hd
      refine rMon ?_ (law_st (V := V2) (d := d2) (i := i) (ih (j + 6) V2 d2 (i + 6) (by omega) (by omega) (by omega) h2))
      intro r ⟨w, k1, k2, k3⟩
      exact ⟨w, k1, by omega, by omega⟩
theorem law_head {V : List eC} {d : Nat × Nat} {L : Nat} {f : Nat → Int} {Q : (Option eV ⊕ Nat) × eW → Prop} (hn : V.length = 1) (h0 : eNth V 0 = some (eA 9 L f)) (hK : ∀ V' d', LI V' L f → d'.1 ≤ d.1 + 200 → d'.2 ≤ d.2 + 30000 → Rs (ev m_L_law 23 [some (eR 0), some (eR 1), some (eR 70), some (eR 81), some (eI 0)] [] (V', d')) Q) : Rs (ev m_L_law 0 [some (eR 0)] [] (V, d)) Q := by
  obtain ⟨⟨e0, r0⟩, ht⟩ := tx0_t
  refine rNewK (N := 1) (M2 := m_L_law) (pc2 := 3) (ls2 := [some (eR 0)]) (st2 := []) (V := V) (d := d) (q := 8) (n := 1) (c := eO 6 (eDefs 6)) rfl hn (fun V101 dV101 cV101 lV101 kV101 eV101 => ?_)
  obtain ⟨W1, dW1, qW1, cW1, lW1, kW1, cw, ct, ⟨c66, c67, c68⟩, cn, co⟩ := s_init (d := dV101) lV101 eV101 ht
  refine rOf (fun R9 hR9 => xCallB0 (N := 2) (M2 := m_L_law) (pc2 := 4) (y := m_S_init) (n := 1) (ls2 := [some (eR 0)]) (st2 := [eR 1]) (st9 := [eR 1, eR 1]) (V := V101) (d := dV101) (r := 1) (bs := []) rfl rfl eV101 rfl qW1 hR9) ?_
  refine rNewK (N := 2) (M2 := m_L_law) (pc2 := 11) (ls2 := [some (eR 0), some (eR 1)]) (st2 := []) (V := W1) (d := dW1) (q := 22) (n := 70) (c := eO 7 (eDefs 7)) rfl lW1 (fun V102 dV102 cV102 lV102 kV102 eV102 => ?_)
  obtain ⟨W2, dW2, qW2, cW2, lW2, kW2, mi⟩ := m_init (d := dV102) lV102 eV102 ht
  refine rOf (fun R9 hR9 => xCallB0 (N := 2) (M2 := m_L_law) (pc2 := 12) (y := m_M_init) (n := 1) (ls2 := [some (eR 0), some (eR 1)]) (st2 := [eR 70]) (st9 := [eR 70, eR 70]) (V := V102) (d := dV102) (r := 70) (bs := []) rfl rfl eV102 rfl qW2 hR9) ?_
  refine rNewK (N := 3) (M2 := m_L_law) (pc2 := 19) (ls2 := [some (eR 0), some (eR 1), some (eR 70)]) (st2 := []) (V := W2) (d := dW2) (q := 1) (n := 81) (c := eA 3 1 (fun _ => 0)) rfl lW2 (fun V103 dV103 cV103 lV103 kV103 eV103 => ?_)
  refine rOf (fun R9 hR9 => xSeg (N := 3) (r := ev m_L_law 23 [some (eR 0), some (eR 1), some (eR 70), some (eR 81), some (eI 0)] [] (V103, dV103)) rfl hR9) ?_
  have hf : ∀ k, k < 70 → eNth V103 k = eNth W1 k := fun k hk => (kV103 k (by omega)).trans ((kW2 k hk).trans (kV102 k (by omega)))
  refine hK V103 dV103 ⟨r0, X0 e0 r0, 0, _, ⟨CW_fr (fun k hk => hf k (by omega)) cw, CT_fr (fun k hk => hf k (by omega)) ct, CH_0 ((hf 66 (by omega)).trans c66) ((hf 67 (by omega)).trans c67) ((hf 68 (by omega)).trans c68) (by omega), CN_fr (fun k hk => hf k (by omega)) cn, CO_fr (fun k hk => hf k (by omega)) co⟩, MI_fr (fun k hk => kV103 k (by omega)) mi, (hf 0 (by omega)).trans (kW1.trans ((kV101 0 (by omega)).trans h0)), eV103⟩ (by omega) (by omega)
theorem law_all {L : Nat} {f : Nat → Int} (hL : L ≤ 3072) (hr : ∀ k, -2147483648 ≤ f k ∧ f k < 2147483648) : ∃ w : eW, ev m_L_law 0 [some (eR 0)] [] ([eA 9 L f], (0, 0)) = some (.inl (some (eI 1)), w) ∧ w.2.1 ≤ 601024 ∧ w.2.2 ≤ 7293034 := by
  obtain ⟨r, h1, w, h2, h3, h4⟩ := law_head (V := [eA 9 L f]) (d := (0, 0)) (L := L) (f := f) (Q := fun r => ∃ w : eW, r = (.inl (some (eI 1)), w) ∧ w.2.1 ≤ 601024 ∧ w.2.2 ≤ 7293034) rfl rfl (fun V' d' h hd1 hd2 => by
    dsimp only at hd1 hd2
    refine rMon ?_ (law_loop hL hr 512 0 V' d' 0 rfl (by omega) (by omega) h)
    intro r ⟨w, k1, k2, k3⟩
    exact ⟨w, k1, by omega, by omega⟩)
  subst h2
  exact ⟨w, h1, h3, h4⟩
