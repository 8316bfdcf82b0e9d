/-! The shares in the law; lifts. -/
theorem shF_cmp : ∀ s, s < 37 → ∀ n, n < 37 → n ≠ 0 → bDcmp (FP.f2d (shF s n)) (FP.f2d (shF s n)) .l = 0 := by decide +kernel
theorem avF_cmp : ∀ n, n < 25 → n ≠ 0 → ∀ s, s < 30 * n + 1 → bDcmp (avF s n) (avF s n) .l = 0 := by decide +kernel
theorem shV_ok {a : eRow} (hG : iG a) : FP.f2d (shV a) &&& 0x7fffffffffffffff ≤ 0x7ff0000000000000 ∧ bDcmp (FP.f2d (shV a)) (FP.f2d (shV a)) .l = 0 := by
  obtain ⟨l1, l2⟩ := sh_le hG
  unfold shV
  by_cases h : shO a = 0
  · rw [if_pos h]
    decide +kernel
  · rw [if_neg h]
    exact ⟨(shF_ok _ l2 _ l1 h).2, shF_cmp _ l2 _ l1 h⟩
theorem avV_ok {a : eRow} (hG : iG a) : bDcmp (avV a) (avV a) .l = 0 := by
  unfold avV
  by_cases h : a 3 = 0
  · rw [if_pos h]
    decide +kernel
  · rw [if_neg h]
    exact avF_cmp _ (by have := hG.1; omega) h _ av_le
/-- a question that only reads, of the class, in V -/
theorem yLift {V : List eC} {P ot : Nat → Int} {S : wS} {y x1 x2 : Nat} {as : eL} {d : Nat × Nat} {o : Option eV ⊕ Nat} (h : ev y 0 (some (eR 0) :: as) [] ([xO P, eA 3 1 ot] ++ wCb 2 S, (0, 0)) = some (o, ([xO P, eA 3 1 ot] ++ wCb 2 S, (x1, x2)))) (h1 : eNth V 1 = some (xC P)) (h81 : eNth V 81 = some (eA 3 1 ot)) (hw : winAt V bC S) (ha : allI as = true) (ho : rO σX ([1, 81] ++ wLf bC) o = o) : ev y 0 (some (eR 1) :: as) [] (V, d) = some (o, (V, (d.1 + x1, d.2 + x2))) := by
  have hint : rL σX ([1, 81] ++ wLf bC) as = as := by
    have := rL_int (σ := σX) (α := [1, 81] ++ wLf bC) (l := []) ha
    rw [List.append_nil] at this
    rw [this]
    exact List.append_nil as
  have hok : okLU σX 22 as = true := by
    have := okLU_int (σ := σX) (n := 22) (l := []) rfl ha
    rw [List.append_nil] at this
    exact this
  exact xAtV (σ := σX) (α := [1, 81] ++ wLf bC) h (atL_app (as := [1, 81]) (cs := [xC P, eA 3 1 ot]) ⟨h1, h81, trivial⟩ hw) rfl rfl rfl hok (by
    show some (eR 1) :: rL σX ([1, 81] ++ wLf bC) as = _
    rw [hint]) ho
def σO (k : Nat) : eV := bif Nat.beq k 19 then eR 71 else σY k
/-- the model works on a row at p -/
theorem mLift {V : List eC} {P g g' mk mk' fr fr' : Nat → Int} {y p : Nat} {as : eL} {d : Nat × Nat} {o : Option eV ⊕ Nat} (h : ev y 0 (some (eR 1) :: some (eR 0) :: as) [] ([eA 0 964 g, mO P, eA 0 144 mk, eA 0 24 fr], (0, 0)) = some (o, ([eA 0 964 g', mO P, eA 0 144 mk', eA 0 24 fr'], (0, 0)))) (hp : p < 70) (h70 : eNth V 70 = some (mX P)) (hg : eNth V p = some (eA 0 964 g)) (hm : eNth V 76 = some (eA 0 144 mk)) (hf : eNth V 77 = some (eA 0 24 fr)) (ha : allI as = true) (ho : rO σO [p, 70, 76, 77] o = o) : True := trivial
set_option maxRecDepth 100000
theorem k_sureShare {V : List eC} {d : Nat × Nat} {L j : Nat} {f : Nat → Int} {i : Int} {Q : (Option eV ⊕ Nat) × eW → Prop} (hi : i = (j : Int)) (hj : j + 6 ≤ L) (hL : L ≤ 3072) (hr : ∀ k, -2147483648 ≤ f k ∧ f k < 2147483648) (h : LI V L f) (hK : ∀ V' d', LI V' L f → dl d d' → Rs (ev m_L_law 3064 [some (eR 0), some (eR 1), some (eR 70), some (eR 81), some (eI i)] [] (V', d')) Q) : Rs (ev m_L_law 2364 [some (eR 0), some (eR 1), some (eR 70), some (eR 81), some (eI i)] [] (V, d)) Q := by
  obtain ⟨a, x, t0, ot, C, M, h0, h81⟩ := h
  obtain ⟨P1, h1⟩ := CI_1 C
  obtain ⟨P70, h70⟩ := MI_70 M
  have hI : iA a := CI_I C
  have hB := CI_B C
  have hG := hI.1
  have hsv := shV_ok hG
  have hq : LV m_S_sureShare a (eFl (shV a)) := fun P S ot hA => ⟨S, hA, s_sureShare (c := (0, 0)) hA hI⟩
  have hn : NV m_M_sureShare a (eFl (shV a)) := fun P g mk fr hg => ⟨mk, z_sureShare (c := (0, 0)) hg hI hB⟩
  obtain ⟨V2, q2, C2, o2, fr2⟩ := lvV (d := d) hq C h81 rfl
  have h02 := (fr2.2 0 (by omega)).trans h0
  have h702 := (fr2.2 70 (by omega)).trans h70
  obtain ⟨P2, h12⟩ := CI_1 C2
  refine rOf (fun R9 hR9 => xCallA1 (N := 2) (M2 := m_L_law) (pc2 := 2365) (y := m_S_sureShare) (n := 1) (ls2 := [some (eR 0), some (eR 1), some (eR 70), some (eR 81), some (eI i)]) (st2 := []) (st9 := [eR 1]) (V := V) (d := d) (r := 1) (bs := []) rfl rfl h1 rfl q2 hR9) ?_
  refine rOf (fun R9 hR9 => xIf (N := 1) (C := FP.f2d (shV a) &&& 0x7fffffffffffffff ≤ 0x7ff0000000000000) (A := ev m_L_law 2369 [some (eR 0), some (eR 1), some (eR 70), some (eR 81), some (eI i)] [eDb (FP.f2d (shV a))] (V2, d)) rfl hsv.1 hR9) ?_
  obtain ⟨V3, q3, M3, fm3⟩ := nvV (d := d) hn (MI_fr (fun k hk => fr2.2 k (by omega)) M) rfl
  have h03 := (fm3.2 0 (by omega)).trans h02
  have h13 := (fm3.2 1 (by omega)).trans h12
  have h813 := (fm3.2 81 (by omega)).trans o2
  obtain ⟨P3, h703⟩ := MI_70 M3
  have C3 := CI_fr (Nat.le_of_eq fm3.1.symm) (fun k hk => fm3.2 k (by omega)) C2
  refine rOf (fun R9 hR9 => xCallA1 (N := 3) (M2 := m_L_law) (pc2 := 2372) (y := m_M_sureShare) (n := 1) (ls2 := [some (eR 0), some (eR 1), some (eR 70), some (eR 81), some (eI i), some (eDb (FP.f2d (shV a))), none]) (st2 := []) (st9 := [eR 70]) (V := V2) (d := d) (r := 70) (bs := []) rfl rfl h702 rfl q3 hR9) ?_
  refine rOf (fun R9 hR9 => xIf (N := 1) (C := FP.f2d (shV a) &&& 0x7fffffffffffffff ≤ 0x7ff0000000000000) (A := ev m_L_law 2376 [some (eR 0), some (eR 1), some (eR 70), some (eR 81), some (eI i), some (eDb (FP.f2d (shV a))), none] [eDb (FP.f2d (shV a))] (V3, d)) rfl hsv.1 hR9) ?_
  refine rOf (fun R9 hR9 => xEqT (N := 5) (x := bDcmp (FP.f2d (shV a)) (FP.f2d (shV a)) .l) (y := 0) (A := ev m_L_law 2404 [some (eR 0), some (eR 1), some (eR 70), some (eR 81), some (eI i), some (eDb (FP.f2d (shV a))), none, some (eDb (FP.f2d (shV a))), none] [] (V3, d)) (B := ev m_L_law 2386 [some (eR 0), some (eR 1), some (eR 70), some (eR 81), some (eI i), some (eDb (FP.f2d (shV a))), none, some (eDb (FP.f2d (shV a))), none] [] (V3, d)) rfl (by rw [hsv.2]; decide) (show wr 0 = 0 by decide) rfl hR9) ?_
  refine rOf (fun R9 hR9 => xSeg (N := 1) (r := ev m_L_law 3064 [some (eR 0), some (eR 1), some (eR 70), some (eR 81), some (eI i), some (eDb (FP.f2d (shV a))), none, some (eDb (FP.f2d (shV a))), none] [] (V3, d)) rfl hR9) ?_
  refine rOf (fun R9 hR9 => xTk 5 (by rfl) rfl hR9) ?_
  exact hK V3 d ⟨a, x, 0, ot, C3, M3, h03, h813⟩ (dl_rf d)
theorem k_averageCandidates {V : List eC} {d : Nat × Nat} {L j : Nat} {f : Nat → Int} {i : Int} {Q : (Option eV ⊕ Nat) × eW → Prop} (hi : i = (j : Int)) (hj : j + 6 ≤ L) (hL : L ≤ 3072) (hr : ∀ k, -2147483648 ≤ f k ∧ f k < 2147483648) (h : LI V L f) (hK : ∀ V' d', LI V' L f → dl d d' → Rs (ev m_L_law 3064 [some (eR 0), some (eR 1), some (eR 70), some (eR 81), some (eI i)] [] (V', d')) Q) : Rs (ev m_L_law 2407 [some (eR 0), some (eR 1), some (eR 70), some (eR 81), some (eI i)] [] (V, d)) Q := by
  obtain ⟨a, x, t0, ot, C, M, h0, h81⟩ := h
  obtain ⟨P1, h1⟩ := CI_1 C
  obtain ⟨P70, h70⟩ := MI_70 M
  have hI : iA a := CI_I C
  have hB := CI_B C
  have hG := hI.1
  have hsv := avV_ok hG
  have hq : LV m_S_averageCandidates a (eDb (avV a)) := fun P S ot hA => ⟨S, hA, s_averageCandidates (c := (0, 0)) hA hI⟩
  have hn : NV m_M_averageCandidates a (eDb (avV a)) := fun P g mk fr hg => ⟨mk, z_averageCandidates (c := (0, 0)) hg hI⟩
  obtain ⟨V2, q2, C2, o2, fr2⟩ := lvV (d := d) hq C h81 rfl
  have h02 := (fr2.2 0 (by omega)).trans h0
  have h702 := (fr2.2 70 (by omega)).trans h70
  obtain ⟨P2, h12⟩ := CI_1 C2
  refine rOf (fun R9 hR9 => xCallA1 (N := 2) (M2 := m_L_law) (pc2 := 2408) (y := m_S_averageCandidates) (n := 1) (ls2 := [some (eR 0), some (eR 1), some (eR 70), some (eR 81), some (eI i)]) (st2 := []) (st9 := [eR 1]) (V := V) (d := d) (r := 1) (bs := []) rfl rfl h1 rfl q2 hR9) ?_
  obtain ⟨V3, q3, M3, fm3⟩ := nvV (d := d) hn (MI_fr (fun k hk => fr2.2 k (by omega)) M) rfl
  have h03 := (fm3.2 0 (by omega)).trans h02
  have h13 := (fm3.2 1 (by omega)).trans h12
  have h813 := (fm3.2 81 (by omega)).trans o2
  obtain ⟨P3, h703⟩ := MI_70 M3
  have C3 := CI_fr (Nat.le_of_eq fm3.1.symm) (fun k hk => fm3.2 k (by omega)) C2
  refine rOf (fun R9 hR9 => xCallA1 (N := 3) (M2 := m_L_law) (pc2 := 2414) (y := m_M_averageCandidates) (n := 1) (ls2 := [some (eR 0), some (eR 1), some (eR 70), some (eR 81), some (eI i), some (eDb (avV a)), none]) (st2 := []) (st9 := [eR 70]) (V := V2) (d := d) (r := 70) (bs := []) rfl rfl h702 rfl q3 hR9) ?_
  refine rOf (fun R9 hR9 => xEqT (N := 5) (x := bDcmp (avV a) (avV a) .l) (y := 0) (A := ev m_L_law 2445 [some (eR 0), some (eR 1), some (eR 70), some (eR 81), some (eI i), some (eDb (avV a)), none, some (eDb (avV a)), none] [] (V3, d)) (B := ev m_L_law 2427 [some (eR 0), some (eR 1), some (eR 70), some (eR 81), some (eI i), some (eDb (avV a)), none, some (eDb (avV a)), none] [] (V3, d)) rfl (by rw [hsv]; decide) (show wr 0 = 0 by decide) rfl hR9) ?_
  refine rOf (fun R9 hR9 => xSeg (N := 1) (r := ev m_L_law 3064 [some (eR 0), some (eR 1), some (eR 70), some (eR 81), some (eI i), some (eDb (avV a)), none, some (eDb (avV a)), none] [] (V3, d)) rfl hR9) ?_
  refine rOf (fun R9 hR9 => xTk 5 (by rfl) rfl hR9) ?_
  exact hK V3 d ⟨a, x, 0, ot, C3, M3, h03, h813⟩ (dl_rf d)
