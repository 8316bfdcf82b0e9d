/-! The model: prizes, doubles, lacks. -/
theorem pow_inj2 {t w : Nat} (h : 2 ^ t = 2 ^ w) : t = w := by
  rcases Nat.lt_trichotomy t w with h1 | h1 | h1
  · have := Nat.pow_lt_pow_right (a := 2) (by omega) h1; omega
  · exact h1
  · have := Nat.pow_lt_pow_right (a := 2) (by omega) h1; omega
theorem sm_one {f : Nat → Nat} {t : Nat} : ∀ n, fb_sm (fun w => if 2 ^ t = 2 ^ w then f w else 0) n = if t < n then f t else 0
  | 0 => by rw [if_neg (Nat.not_lt_zero _)]; rfl
  | n + 1 => by
    rw [fb_sm_succ, sm_one n]
    by_cases h : t = n
    · subst h
      rw [if_neg (by omega), if_pos rfl, if_pos (by omega)]; omega
    · rw [if_neg (fun e => h (pow_inj2 e))]
      by_cases h2 : t < n
      · rw [if_pos h2, if_pos (by omega)]; omega
      · rw [if_neg h2, if_neg (by omega)]
/-- a slot with just one candidate -/
theorem one_at {a : eRow} (hI : iA a) {k : Nat} (hk : k < a 3) (h1 : pc 30 (op a k) = 1) : ∃ t : Nat, (bwA (op a k).testBit (wp a) (a 2)).1 = (t : Int) ∧ t < a 2 ∧ op a k = 2 ^ t := by
  obtain ⟨hG, hV, hO, hT, hM⟩ := hI
  obtain ⟨t, ht, hlow⟩ := low_get (hO k hk).1 (by omega)
  have h9 := ((hO k hk).2 t ht).1
  obtain ⟨j, hj⟩ := bwA_some (q := (op a k).testBit) (f := wp a) (k := a 2) (fun w hw => by
    have h9 := ((hO _ hk).2 w hw).1
    have := wpz_pos (hold a) (lt a w) (L := wl a w) (by have := (hV.2 w h9).1; omega)
    exact this) ⟨t, h9, ht⟩
  obtain ⟨q1, q2⟩ := bwA_q hj
  have e := pc_one (hO k hk).1 h1 ht hlow
  have hjt : j = t := by
    rw [e, Nat.testBit_two_pow] at q1
    have := of_decide_eq_true q1
    omega
  subst hjt
  exact ⟨j, hj, q2, e⟩
def pzF (a : eRow) (k : Nat) : Nat := if pc 30 (op a k) = 1 then wp a (bwA (op a k).testBit (wp a) (a 2)).1.toNat else 0
theorem pz_eq {a : eRow} (hI : iA a) : fb_sm (pzF a) (a 3) = PzN a := by
  refine fb_sm_cong (fun k hk => ?_)
  unfold pzF
  by_cases h1 : pc 30 (op a k) = 1
  · rw [if_pos h1]
    obtain ⟨t, h2, h3, h4⟩ := one_at hI hk h1
    rw [h2, h4, sm_one, if_pos h3, Int.toNat_natCast]
  · rw [if_neg h1]
    have h0 : fb_sm (fun w => if op a k = 2 ^ w then wp a w else 0) (a 2) = fb_sm (fun _ => 0) (a 2) := fb_sm_cong (fun w hw => if_neg (fun e => h1 (by rw [e]; exact pc_two w (by have := hI.2.1.1; omega))))
    rw [h0, fb_sm_const, Nat.mul_zero]
theorem sm_ct {A : Nat → Bool} : ∀ m, fb_sm (fun p => if A p then 1 else 0) m = fb_ct A m
  | 0 => rfl
  | m + 1 => by rw [fb_sm_succ, fb_ct_succ, sm_ct m]
theorem sm_swap {A : Nat → Nat → Bool} {m : Nat} : ∀ n, fb_sm (fun p => fb_ct (A p) n) m = fb_sm (fun w => fb_ct (fun p => A p w) m) n
  | 0 => by
    show fb_sm (fun _ => 0) m = 0
    rw [fb_sm_const, Nat.mul_zero]
  | n + 1 => by
    rw [fb_sm_succ, ← sm_swap n, ← sm_ct, ← fb_sm_add]
    rfl
def seG (a : eRow) (k w : Nat) : Nat := if (op a k).testBit w = true then fb_ct (fun p => lk (oth a) (plc a) (lt a) (op a) k p w) (sl a k) else 0
theorem un_pc {a : eRow} {k p : Nat} : pc 30 (unS (oth a) (plc a) (lt a) (op a) k p) = fb_ct (fun w => (op a k).testBit w && lk (oth a) (plc a) (lt a) (op a) k p w) 30 := by
  unfold unS
  by_cases h : oth a k p = 0
  · rw [if_pos h]
    have h0 : fb_ct (fun w => (op a k).testBit w && lk (oth a) (plc a) (lt a) (op a) k p w) 30 = 0 := fb_ct_zero.mpr (fun w hw => by
      show ((op a k).testBit w && (decide (oth a k p ≠ 0) && _)) = false
      rw [decide_eq_false (fun h2 => h2 h), Bool.false_and, Bool.and_false])
    rw [h0]
    decide +kernel
  · rw [if_neg h, pc_ct]
    refine fb_ct_cong (fun w hw => ?_)
    have e : usN (op a k) (lmN (op a (oth a k p - 1)) (fun v => lt a v (plc a k p))) (fun w => lt a w p) = mkM (fun w => (op a k).testBit w && !(lmN (op a (oth a k p - 1)) (fun v => lt a v (plc a k p))).testBit (lt a w p)) 30 := rfl
    rw [e, mkM_tb, decide_eq_true hw, Bool.true_and]
    show _ = ((op a k).testBit w && (decide (oth a k p ≠ 0) && _))
    rw [decide_eq_true h, Bool.true_and]
theorem se_eq {a : eRow} (hI : iA a) : fb_sm (fun k => fb_sm (seG a k) (a 2)) (a 3) = sumP (sl a) (fun k p => pc 30 (unS (oth a) (plc a) (lt a) (op a) k p)) (a 3) := by
  refine fb_sm_cong (fun k hk => ?_)
  have e1 : fb_sm (fun p => pc 30 (unS (oth a) (plc a) (lt a) (op a) k p)) (sl a k) = fb_sm (fun p => fb_ct (fun w => (op a k).testBit w && lk (oth a) (plc a) (lt a) (op a) k p w) 30) (sl a k) := fb_sm_cong (fun p _ => un_pc)
  rw [e1, sm_swap (A := fun p w => (op a k).testBit w && lk (oth a) (plc a) (lt a) (op a) k p w) 30]
  have h2 := hI.2.1.1
  have e2 : fb_sm (fun w => fb_ct (fun p => (op a k).testBit w && lk (oth a) (plc a) (lt a) (op a) k p w) (sl a k)) 30 = fb_sm (seG a k) 30 := fb_sm_cong (fun w _ => by
    unfold seG
    cases hb : (op a k).testBit w with
    | true => rw [if_pos rfl]; exact fb_ct_cong (fun p _ => Bool.true_and _)
    | false => rw [if_neg (by decide)]; exact fb_ct_zero.mpr (fun p _ => Bool.false_and _))
  rw [e2]
  have h3 := fb_sm_split (seG a k) (a 2) (30 - a 2)
  rw [show a 2 + (30 - a 2) = 30 by omega] at h3
  rw [h3]
  have h0 : fb_sm (fun w => seG a k (a 2 + w)) (30 - a 2) = fb_sm (fun _ => 0) (30 - a 2) := fb_sm_cong (fun w hw => by
    unfold seG
    refine if_neg (fun hb => ?_)
    have := ((hI.2.2.1 k hk).2 _ hb).1
    omega)
  rw [h0, fb_sm_const, Nat.mul_zero, Nat.add_zero]
def σZ (k : Nat) : eV := bif Nat.beq k 19 then eR 0 else eSt k
theorem zUp {P g g' mk mk' fr fr' : Nat → Int} {y : Nat} {as as' : eL} {o o' : Option eV ⊕ Nat} {c : Nat × Nat} (h : ev y 0 as [] ([eA 0 964 g, mO P, eA 0 144 mk, eA 0 24 fr], (0, 0)) = some (o, ([eA 0 964 g', mO P, eA 0 144 mk', eA 0 24 fr'], (0, 0)))) (ha : okLU σZ 4 as = true) (has : rL σZ [0, 1, 2, 3] as = as') (ho : rO σZ [0, 1, 2, 3] o = o') : ev y 0 as' [] ([eA 0 964 g, mZ P, eA 0 144 mk, eA 0 24 fr], c) = some (o', ([eA 0 964 g', mZ P, eA 0 144 mk', eA 0 24 fr'], c)) :=
  xAt (σ := σZ) (α := [0, 1, 2, 3]) h rfl rfl rfl rfl rfl ha has ho rfl
set_option maxRecDepth 100000
theorem z_prizeNow {g mk fr P : Nat → Int} {a : eRow} {c : Nat × Nat} (hg : rg g a) (hI : iA a)  : ev m_M_prizeNow 0 [some (eR 1)] [] ([eA 0 964 g, mZ P, eA 0 144 mk, eA 0 24 fr], c) = some (.inl (some (eI (((PzN a : Nat) : Int)))), ([eA 0 964 g, mZ (eUp P 10 0), eA 0 144 mk, eA 0 24 fr], c)) := by
  obtain ⟨hG, hV, hO, hT, hM⟩ := hI
  have bG := hG.1
  have bV := hV.1
  have b5 := iT_24 bG.2.2.2.2 hT
  have e0 := hg 0 (by omega)
  have e1 := hg 1 (by omega)
  have e2 := hg 2 (by omega)
  have e3 := hg 3 (by omega)
  have e4 := hg 4 (by omega)
  have e5 := hg 5 (by omega)
  have hz9 := pz_eq ⟨hG, hV, hO, hT, hM⟩
  have hl : ∀ p : Nat, p ≤ a 3 → ∀ s y : Int, s = ((fb_sm (pzF a) p : Nat) : Int) → y = ((p : Nat) : Int) → ev m_M_prizeNow 9 [some (eR 1), some (eI s), some (eI y)] [] ([eA 0 964 g, mZ (eUp P 10 0), eA 0 144 mk, eA 0 24 fr], c) = some (.inl (some (eI ((PzN a : Nat) : Int))), ([eA 0 964 g, mZ (eUp P 10 0), eA 0 144 mk, eA 0 24 fr], c)) := by
    refine loop_up ?_ ?_
    · intro s y hs hy
      refine xLd (N := 5) (n := 964) (i := 3) (F := fun zq => ev m_M_prizeNow 16 [some (eR 1), some (eI s), some (eI y)] [eI (g zq), eI y] ([eA 0 964 g, mZ (eUp P 10 0), eA 0 144 mk, eA 0 24 fr], c)) (k := 3) rfl (show wr 3 = ((3 : Nat) : Int) by decide) (by omega) ?_
      refine xLtF (N := 1) (x := y) (y := g 3) (A := ev m_M_prizeNow 19 [some (eR 1), some (eI s), some (eI y)] [] ([eA 0 964 g, mZ (eUp P 10 0), eA 0 144 mk, eA 0 24 fr], c)) (B := ev m_M_prizeNow 55 [some (eR 1), some (eI s), some (eI y)] [] ([eA 0 964 g, mZ (eUp P 10 0), eA 0 144 mk, eA 0 24 fr], c)) rfl (wr_id (by omega) (by omega)) (wr_id (by omega) (by omega)) (by omega) ?_
      refine xSeg (N := 2) (r := some (.inl (some (eI s)), ([eA 0 964 g, mZ (eUp P 10 0), eA 0 144 mk, eA 0 24 fr], c))) rfl ?_
      exact lf (by rw [hs, hz9])
    · intro p hp ih s y hs hy
      have hb := hO p hp
      have hct := n_countOf (c := (0, 0)) hg hy (by omega) hb.1
      have hbo := n_bestOf (c := (0, 0)) hg hV hy (by omega) hb.1
      have h1 := one_at ⟨hG, hV, hO, hT, hM⟩ hp
      have hs2 := fb_sm_succ (pzF a) p
      have hpc := pc_le 30 (op a p)
      obtain ⟨zn, hzn⟩ : ∃ zn : Int, zn = ((pc 30 (op a p) : Nat) : Int) := ⟨_, rfl⟩
      rw [← hzn] at hct
      obtain ⟨zb, hzb⟩ : ∃ zb : Int, zb = (bwA (op a p).testBit (wp a) (a 2)).1 := ⟨_, rfl⟩
      rw [← hzb] at hbo
      have hpz : zn = 1 → ∃ zp : Int, zp = ((pzF a p : Nat) : Int) ∧ ev m_M_prize 0 [some (eR 0), some (eI zb)] [] ([eA 0 964 g], (0, 0)) = some (.inl (some (eI zp)), ([eA 0 964 g], (0, 0))) := fun h => by
        obtain ⟨t, t1, t2, t3⟩ := h1 (by omega)
        have hq := n_prize (c := (0, 0)) hg hV (hzb.trans t1) t2
        refine ⟨_, ?_, hq⟩
        unfold pzF
        rw [if_pos (by omega), t1, Int.toNat_natCast]
      have hp0 : zn ≠ 1 → pzF a p = 0 := fun h => if_neg (by omega)
      refine xLd (N := 5) (n := 964) (i := 3) (F := fun zq => ev m_M_prizeNow 16 [some (eR 1), some (eI s), some (eI y)] [eI (g zq), eI y] ([eA 0 964 g, mZ (eUp P 10 0), eA 0 144 mk, eA 0 24 fr], c)) (k := 3) rfl (show wr 3 = ((3 : Nat) : Int) by decide) (by omega) ?_
      refine xLtT (N := 1) (x := y) (y := g 3) (A := ev m_M_prizeNow 19 [some (eR 1), some (eI s), some (eI y)] [] ([eA 0 964 g, mZ (eUp P 10 0), eA 0 144 mk, eA 0 24 fr], c)) (B := ev m_M_prizeNow 55 [some (eR 1), some (eI s), some (eI y)] [] ([eA 0 964 g, mZ (eUp P 10 0), eA 0 144 mk, eA 0 24 fr], c)) rfl (wr_id (by omega) (by omega)) (wr_id (by omega) (by omega)) (by omega) ?_
      refine xCall (N := 4) (M2 := m_M_prizeNow) (pc2 := 24) (ls2 := [some (eR 1), some (eI s), some (eI y)]) (st2 := []) (y := m_M_countOf) (as := [some (eR 0), some (eI y)]) (w2 := ([eA 0 964 g, mZ (eUp P 10 0), eA 0 144 mk, eA 0 24 fr], c)) rfl (rowRd hct rfl rfl) ?_
      refine xEq (N := 2) (x := zn) (y := 1) (A := ev m_M_prizeNow 31 [some (eR 1), some (eI s), some (eI y)] [] ([eA 0 964 g, mZ (eUp P 10 0), eA 0 144 mk, eA 0 24 fr], c)) (B := ev m_M_prizeNow 49 [some (eR 1), some (eI s), some (eI y)] [] ([eA 0 964 g, mZ (eUp P 10 0), eA 0 144 mk, eA 0 24 fr], c)) rfl (wr_id (by omega) (by omega)) (show wr 1 = 1 by decide) (fun h28 => ?_) (fun h28 => ?_)
      · obtain ⟨zp, hzp, hq⟩ := hpz (by omega)
        refine xCall (N := 7) (M2 := m_M_prizeNow) (pc2 := 41) (ls2 := [some (eR 1), some (eI s), some (eI y)]) (st2 := [eR 0, eI s]) (y := m_M_bestOf) (as := [some (eR 0), some (eI y)]) (w2 := ([eA 0 964 g, mZ (eUp P 10 0), eA 0 144 mk, eA 0 24 fr], c)) rfl (rowRd hbo rfl rfl) ?_
        refine xCall (N := 1) (M2 := m_M_prizeNow) (pc2 := 44) (ls2 := [some (eR 1), some (eI s), some (eI y)]) (st2 := [eI s]) (y := m_M_prize) (as := [some (eR 0), some (eI zb)]) (w2 := ([eA 0 964 g, mZ (eUp P 10 0), eA 0 144 mk, eA 0 24 fr], c)) rfl (rowRd hq rfl rfl) ?_
        refine xSeg (N := 4) (r := ev m_M_prizeNow 9 [some (eR 1), some (eI (s + zp)), some (eI (y + 1))] [] ([eA 0 964 g, mZ (eUp P 10 0), eA 0 144 mk, eA 0 24 fr], c)) rfl ?_
        first | exact ih _ _ (by omega) (by omega) | (have := hp0 (by omega); exact ih _ _ (by omega) (by omega))
      · refine xSeg (N := 2) (r := ev m_M_prizeNow 9 [some (eR 1), some (eI s), some (eI (y + 1))] [] ([eA 0 964 g, mZ (eUp P 10 0), eA 0 144 mk, eA 0 24 fr], c)) rfl ?_
        first | exact ih _ _ (by omega) (by omega) | (have := hp0 (by omega); exact ih _ _ (by omega) (by omega))
  refine xSeg (N := 7) (r := ev m_M_prizeNow 9 [some (eR 1), some (eI 0), some (eI 0)] [] ([eA 0 964 g, mZ (eUp P 10 0), eA 0 144 mk, eA 0 24 fr], c)) rfl ?_
  exact hl 0 (Nat.zero_le _) _ _ rfl rfl
theorem z_isDouble {g mk fr P : Nat → Int} {a : eRow} {c : Nat × Nat} (hg : rg g a) (hI : iA a) {x : Int} {k : Nat} (hx : x = (k : Int)) (hk : k < a 3) : ev m_M_isDouble 0 [some (eR 1), some (eI x)] [] ([eA 0 964 g, mZ P, eA 0 144 mk, eA 0 24 fr], c) = some (.inl (some (eI (bI (anyN (fun j => decide (j ≠ k ∧ (op a j &&& op a k) ≠ 0)) (a 3))))), ([eA 0 964 g, mZ P, eA 0 144 mk, eA 0 24 fr], c)) := by
  obtain ⟨hG, hV, hO, hT, hM⟩ := hI
  have bG := hG.1
  have bV := hV.1
  have b5 := iT_24 bG.2.2.2.2 hT
  have e0 := hg 0 (by omega)
  have e1 := hg 1 (by omega)
  have e2 := hg 2 (by omega)
  have e3 := hg 3 (by omega)
  have e4 := hg 4 (by omega)
  have e5 := hg 5 (by omega)
  have hok : g (316 + k) = ((op a k : Nat) : Int) := hg (316 + k) (by omega)
  have hok2 := (hO k hk).1
  have hl : ∀ p : Nat, p ≤ a 3 → ∀ y : Int, y = (p : Int) → (∀ j, j < p → ¬ (j ≠ k ∧ (op a j &&& op a k) ≠ 0)) → ev m_M_isDouble 2 [some (eR 1), some (eI x), some (eI y)] [] ([eA 0 964 g, mZ P, eA 0 144 mk, eA 0 24 fr], c) = some (.inl (some (eI (bI (anyN (fun j => decide (j ≠ k ∧ (op a j &&& op a k) ≠ 0)) (a 3))))), ([eA 0 964 g, mZ P, eA 0 144 mk, eA 0 24 fr], c)) := by
    refine loop_up ?_ ?_
    · intro y hy ha
      refine xLd (N := 5) (n := 964) (i := 3) (F := fun zq => ev m_M_isDouble 9 [some (eR 1), some (eI x), some (eI y)] [eI (g zq), eI y] ([eA 0 964 g, mZ P, eA 0 144 mk, eA 0 24 fr], c)) (k := 3) rfl (show wr 3 = ((3 : Nat) : Int) by decide) (by omega) ?_
      refine xLtF (N := 1) (x := y) (y := g 3) (A := ev m_M_isDouble 12 [some (eR 1), some (eI x), some (eI y)] [] ([eA 0 964 g, mZ P, eA 0 144 mk, eA 0 24 fr], c)) (B := ev m_M_isDouble 49 [some (eR 1), some (eI x), some (eI y)] [] ([eA 0 964 g, mZ P, eA 0 144 mk, eA 0 24 fr], c)) rfl (wr_id (by omega) (by omega)) (wr_id (by omega) (by omega)) (by omega) ?_
      refine xRb (N := 2) (v := 0) (w2 := ([eA 0 964 g, mZ P, eA 0 144 mk, eA 0 24 fr], c)) rfl (by decide) ?_
      exact lf (bF (anyN_F (fun j hj => decide_eq_false (ha j hj))))
    · intro p hp ih y hy ha
      have hb := (hO p hp).1
      have hbp : g (316 + p) = ((op a p : Nat) : Int) := hg (316 + p) (by omega)
      have ha2 : (op a p &&& op a k) < 1073741824 := Nat.lt_of_le_of_lt Nat.and_le_left hb
      have ih2 : ¬ (p ≠ k ∧ (op a p &&& op a k) ≠ 0) → ∀ j, j < p + 1 → ¬ (j ≠ k ∧ (op a j &&& op a k) ≠ 0) := fun h j hj => by
        by_cases hjp : j = p
        · subst hjp; exact h
        · exact ha j (by omega)
      refine xLd (N := 5) (n := 964) (i := 3) (F := fun zq => ev m_M_isDouble 9 [some (eR 1), some (eI x), some (eI y)] [eI (g zq), eI y] ([eA 0 964 g, mZ P, eA 0 144 mk, eA 0 24 fr], c)) (k := 3) rfl (show wr 3 = ((3 : Nat) : Int) by decide) (by omega) ?_
      refine xLtT (N := 1) (x := y) (y := g 3) (A := ev m_M_isDouble 12 [some (eR 1), some (eI x), some (eI y)] [] ([eA 0 964 g, mZ P, eA 0 144 mk, eA 0 24 fr], c)) (B := ev m_M_isDouble 49 [some (eR 1), some (eI x), some (eI y)] [] ([eA 0 964 g, mZ P, eA 0 144 mk, eA 0 24 fr], c)) rfl (wr_id (by omega) (by omega)) (wr_id (by omega) (by omega)) (by omega) ?_
      refine xEq (N := 3) (x := y) (y := x) (A := ev m_M_isDouble 43 [some (eR 1), some (eI x), some (eI y)] [] ([eA 0 964 g, mZ P, eA 0 144 mk, eA 0 24 fr], c)) (B := ev m_M_isDouble 17 [some (eR 1), some (eI x), some (eI y)] [] ([eA 0 964 g, mZ P, eA 0 144 mk, eA 0 24 fr], c)) rfl (wr_id (by omega) (by omega)) (wr_id (by omega) (by omega)) (fun h14 => ?_) (fun h14 => ?_)
      · refine xSeg (N := 2) (r := ev m_M_isDouble 2 [some (eR 1), some (eI x), some (eI (y + 1))] [] ([eA 0 964 g, mZ P, eA 0 144 mk, eA 0 24 fr], c)) rfl ?_
        exact ih _ (by omega) (ih2 (by omega))
      · refine xLd (N := 6) (n := 964) (i := 316 + y) (F := fun zq => ev m_M_isDouble 27 [some (eR 1), some (eI x), some (eI y)] [eI (g zq)] ([eA 0 964 g, mZ P, eA 0 144 mk, eA 0 24 fr], c)) (k := 316 + p) rfl (wr_nat (by omega) (by omega)) (by omega) ?_
        refine xLd (N := 6) (n := 964) (i := 316 + x) (F := fun zq => ev m_M_isDouble 37 [some (eR 1), some (eI x), some (eI y)] [eI (g zq), eI (g (316 + p))] ([eA 0 964 g, mZ P, eA 0 144 mk, eA 0 24 fr], c)) (k := 316 + k) rfl (wr_nat (by omega) (by omega)) (by omega) ?_
        refine xTop (N := 1) (pc2 := 38) (ls2 := [some (eR 1), some (eI x), some (eI y)]) (a := bAnd (g (316 + p)) (g (316 + k))) (b := ((op a p &&& op a k : Nat) : Int)) (st2 := []) (w2 := ([eA 0 964 g, mZ P, eA 0 144 mk, eA 0 24 fr], c)) rfl (by rw [hbp, hok, bAnd_n (by omega)]) (fun z1 hz1 => ?_)
        refine xEq (N := 1) (x := z1) (y := 0) (A := ev m_M_isDouble 43 [some (eR 1), some (eI x), some (eI y)] [] ([eA 0 964 g, mZ P, eA 0 144 mk, eA 0 24 fr], c)) (B := ev m_M_isDouble 41 [some (eR 1), some (eI x), some (eI y)] [] ([eA 0 964 g, mZ P, eA 0 144 mk, eA 0 24 fr], c)) rfl (wr_id (by omega) (by omega)) (show wr 0 = 0 by decide) (fun h38 => ?_) (fun h38 => ?_)
        · refine xSeg (N := 2) (r := ev m_M_isDouble 2 [some (eR 1), some (eI x), some (eI (y + 1))] [] ([eA 0 964 g, mZ P, eA 0 144 mk, eA 0 24 fr], c)) rfl ?_
          exact ih _ (by omega) (ih2 (by omega))
        · refine xRb (N := 2) (v := 1) (w2 := ([eA 0 964 g, mZ P, eA 0 144 mk, eA 0 24 fr], c)) rfl (by decide) ?_
          exact lf (bT (anyN_iff.mpr ⟨p, hp, decide_eq_true (by omega)⟩))
  refine xSeg (N := 2) (r := ev m_M_isDouble 2 [some (eR 1), some (eI x), some (eI 0)] [] ([eA 0 964 g, mZ P, eA 0 144 mk, eA 0 24 fr], c)) rfl ?_
  exact hl 0 (Nat.zero_le _) _ rfl (fun k hk => absurd hk (by omega))
theorem z_doubleErrors {g mk fr P : Nat → Int} {a : eRow} {c : Nat × Nat} (hg : rg g a) (hI : iA a)  : ev m_M_doubleErrors 0 [some (eR 1)] [] ([eA 0 964 g, mZ P, eA 0 144 mk, eA 0 24 fr], c) = some (.inl (some (eI (((DbN a : Nat) : Int)))), ([eA 0 964 g, mZ (eUp P 10 0), eA 0 144 mk, eA 0 24 fr], c)) := by
  obtain ⟨hG, hV, hO, hT, hM⟩ := hI
  have bG := hG.1
  have bV := hV.1
  have b5 := iT_24 bG.2.2.2.2 hT
  have e0 := hg 0 (by omega)
  have e1 := hg 1 (by omega)
  have e2 := hg 2 (by omega)
  have e3 := hg 3 (by omega)
  have e4 := hg 4 (by omega)
  have e5 := hg 5 (by omega)
  unfold DbN
  have hM4 := hM.1
  by_cases h4 : a 4 ≤ 1
  · rw [if_pos h4]
    have hl : ∀ p : Nat, p ≤ a 3 → ∀ s y : Int, s = ((fb_ct (fun k => decide (pc 30 (op a k) = 1) && anyN (fun j => decide (j ≠ k ∧ (op a j &&& op a k) ≠ 0)) (a 3)) p : Nat) : Int) → y = ((p : Nat) : Int) → ev m_M_doubleErrors 9 [some (eR 1), some (eI s), some (eI y)] [] ([eA 0 964 g, mZ (eUp P 10 0), eA 0 144 mk, eA 0 24 fr], c) = some (.inl (some (eI ((fb_ct (fun k => decide (pc 30 (op a k) = 1) && anyN (fun j => decide (j ≠ k ∧ (op a j &&& op a k) ≠ 0)) (a 3)) (a 3) : Nat) : Int))), ([eA 0 964 g, mZ (eUp P 10 0), eA 0 144 mk, eA 0 24 fr], c)) := by
      refine loop_up ?_ ?_
      · intro s y hs hy
        refine xLd (N := 5) (n := 964) (i := 3) (F := fun zq => ev m_M_doubleErrors 16 [some (eR 1), some (eI s), some (eI y)] [eI (g zq), eI y] ([eA 0 964 g, mZ (eUp P 10 0), eA 0 144 mk, eA 0 24 fr], c)) (k := 3) rfl (show wr 3 = ((3 : Nat) : Int) by decide) (by omega) ?_
        refine xLtF (N := 1) (x := y) (y := g 3) (A := ev m_M_doubleErrors 19 [some (eR 1), some (eI s), some (eI y)] [] ([eA 0 964 g, mZ (eUp P 10 0), eA 0 144 mk, eA 0 24 fr], c)) (B := ev m_M_doubleErrors 58 [some (eR 1), some (eI s), some (eI y)] [] ([eA 0 964 g, mZ (eUp P 10 0), eA 0 144 mk, eA 0 24 fr], c)) rfl (wr_id (by omega) (by omega)) (wr_id (by omega) (by omega)) (by omega) ?_
        refine xSeg (N := 2) (r := some (.inl (some (eI s)), ([eA 0 964 g, mZ (eUp P 10 0), eA 0 144 mk, eA 0 24 fr], c))) rfl ?_
        exact lf hs
      · intro p hp ih s y hs hy
        have hb := hO p hp
        have hct := n_countOf (c := (0, 0)) hg hy (by omega) hb.1
        have hpc := pc_le 30 (op a p)
        obtain ⟨zn, hzn⟩ : ∃ zn : Int, zn = ((pc 30 (op a p) : Nat) : Int) := ⟨_, rfl⟩
        rw [← hzn] at hct
        have hid := z_isDouble (mk := mk) (fr := fr) (P := eUp P 10 0) (c := c) hg ⟨hG, hV, hO, hT, hM⟩ hy hp
        obtain ⟨b9, hb9⟩ : ∃ b9 : Bool, b9 = anyN (fun j => decide (j ≠ p ∧ (op a j &&& op a p) ≠ 0)) (a 3) := ⟨_, rfl⟩
        rw [← hb9] at hid
        obtain ⟨zi, hzi⟩ : ∃ zi : Int, zi = bI b9 := ⟨_, rfl⟩
        rw [← hzi] at hid
        have hq := bI_1 hzi
        have hs2 := fb_ct_succ (fun k => decide (pc 30 (op a k) = 1) && anyN (fun j => decide (j ≠ k ∧ (op a j &&& op a k) ≠ 0)) (a 3)) p
        have hsT : zn = 1 → zi = 1 → fb_ct (fun k => decide (pc 30 (op a k) = 1) && anyN (fun j => decide (j ≠ k ∧ (op a j &&& op a k) ≠ 0)) (a 3)) (p + 1) = fb_ct (fun k => decide (pc 30 (op a k) = 1) && anyN (fun j => decide (j ≠ k ∧ (op a j &&& op a k) ≠ 0)) (a 3)) p + 1 := fun h1 h2 => ct_T (by show (decide (pc 30 (op a p) = 1) && _) = true; rw [← hb9, hq.2.1.mp h2, decide_eq_true (by omega)]; rfl)
        have hsF : zn ≠ 1 ∨ zi = 0 → fb_ct (fun k => decide (pc 30 (op a k) = 1) && anyN (fun j => decide (j ≠ k ∧ (op a j &&& op a k) ≠ 0)) (a 3)) (p + 1) = fb_ct (fun k => decide (pc 30 (op a k) = 1) && anyN (fun j => decide (j ≠ k ∧ (op a j &&& op a k) ≠ 0)) (a 3)) p := fun h => ct_F (by show (decide (pc 30 (op a p) = 1) && _) = false; rw [← hb9]; rcases h with h | h; rw [decide_eq_false (by omega), Bool.false_and]; rw [hq.2.2.mp h, Bool.and_false])
        refine xLd (N := 5) (n := 964) (i := 3) (F := fun zq => ev m_M_doubleErrors 16 [some (eR 1), some (eI s), some (eI y)] [eI (g zq), eI y] ([eA 0 964 g, mZ (eUp P 10 0), eA 0 144 mk, eA 0 24 fr], c)) (k := 3) rfl (show wr 3 = ((3 : Nat) : Int) by decide) (by omega) ?_
        refine xLtT (N := 1) (x := y) (y := g 3) (A := ev m_M_doubleErrors 19 [some (eR 1), some (eI s), some (eI y)] [] ([eA 0 964 g, mZ (eUp P 10 0), eA 0 144 mk, eA 0 24 fr], c)) (B := ev m_M_doubleErrors 58 [some (eR 1), some (eI s), some (eI y)] [] ([eA 0 964 g, mZ (eUp P 10 0), eA 0 144 mk, eA 0 24 fr], c)) rfl (wr_id (by omega) (by omega)) (wr_id (by omega) (by omega)) (by omega) ?_
        refine xLd (N := 4) (n := 964) (i := 4) (F := fun zq => ev m_M_doubleErrors 25 [some (eR 1), some (eI s), some (eI y)] [eI (g zq)] ([eA 0 964 g, mZ (eUp P 10 0), eA 0 144 mk, eA 0 24 fr], c)) (k := 4) rfl (show wr 4 = ((4 : Nat) : Int) by decide) (by omega) ?_
        refine xLtF (N := 2) (x := 1) (y := g 4) (A := ev m_M_doubleErrors 58 [some (eR 1), some (eI s), some (eI y)] [] ([eA 0 964 g, mZ (eUp P 10 0), eA 0 144 mk, eA 0 24 fr], c)) (B := ev m_M_doubleErrors 29 [some (eR 1), some (eI s), some (eI y)] [] ([eA 0 964 g, mZ (eUp P 10 0), eA 0 144 mk, eA 0 24 fr], c)) rfl (show wr 1 = 1 by decide) (wr_id (by omega) (by omega)) (by omega) ?_
        refine xCall (N := 4) (M2 := m_M_doubleErrors) (pc2 := 34) (ls2 := [some (eR 1), some (eI s), some (eI y)]) (st2 := []) (y := m_M_countOf) (as := [some (eR 0), some (eI y)]) (w2 := ([eA 0 964 g, mZ (eUp P 10 0), eA 0 144 mk, eA 0 24 fr], c)) rfl (rowRd hct rfl rfl) ?_
        refine xEq (N := 2) (x := zn) (y := 1) (A := ev m_M_doubleErrors 41 [some (eR 1), some (eI s), some (eI y)] [] ([eA 0 964 g, mZ (eUp P 10 0), eA 0 144 mk, eA 0 24 fr], c)) (B := ev m_M_doubleErrors 52 [some (eR 1), some (eI s), some (eI y)] [] ([eA 0 964 g, mZ (eUp P 10 0), eA 0 144 mk, eA 0 24 fr], c)) rfl (wr_id (by omega) (by omega)) (show wr 1 = 1 by decide) (fun h38 => ?_) (fun h38 => ?_)
        · refine xCallW (N := 3) (M2 := m_M_doubleErrors) (pc2 := 43) (ls2 := [some (eR 1), some (eI s), some (eI y)]) (st2 := []) (y := m_M_isDouble) (as := [some (eR 1), some (eI y)]) (w2 := ([eA 0 964 g, mZ (eUp P 10 0), eA 0 144 mk, eA 0 24 fr], c)) rfl hid ?_
          refine xEq (N := 1) (x := zi) (y := 0) (A := ev m_M_doubleErrors 52 [some (eR 1), some (eI s), some (eI y)] [] ([eA 0 964 g, mZ (eUp P 10 0), eA 0 144 mk, eA 0 24 fr], c)) (B := ev m_M_doubleErrors 49 [some (eR 1), some (eI s), some (eI y)] [] ([eA 0 964 g, mZ (eUp P 10 0), eA 0 144 mk, eA 0 24 fr], c)) rfl (wr_id (by omega) (by omega)) (show wr 0 = 0 by decide) (fun h46 => ?_) (fun h46 => ?_)
          · refine xSeg (N := 2) (r := ev m_M_doubleErrors 9 [some (eR 1), some (eI s), some (eI (y + 1))] [] ([eA 0 964 g, mZ (eUp P 10 0), eA 0 144 mk, eA 0 24 fr], c)) rfl ?_
            first | (have := hsT (by omega) (by omega); exact ih _ _ (by omega) (by omega)) | (have := hsF (by omega); exact ih _ _ (by omega) (by omega))
          · refine xSeg (N := 3) (r := ev m_M_doubleErrors 9 [some (eR 1), some (eI (s + 1)), some (eI (y + 1))] [] ([eA 0 964 g, mZ (eUp P 10 0), eA 0 144 mk, eA 0 24 fr], c)) rfl ?_
            first | (have := hsT (by omega) (by omega); exact ih _ _ (by omega) (by omega)) | (have := hsF (by omega); exact ih _ _ (by omega) (by omega))
        · refine xSeg (N := 2) (r := ev m_M_doubleErrors 9 [some (eR 1), some (eI s), some (eI (y + 1))] [] ([eA 0 964 g, mZ (eUp P 10 0), eA 0 144 mk, eA 0 24 fr], c)) rfl ?_
          first | (have := hsT (by omega) (by omega); exact ih _ _ (by omega) (by omega)) | (have := hsF (by omega); exact ih _ _ (by omega) (by omega))
    refine xSeg (N := 7) (r := ev m_M_doubleErrors 9 [some (eR 1), some (eI 0), some (eI 0)] [] ([eA 0 964 g, mZ (eUp P 10 0), eA 0 144 mk, eA 0 24 fr], c)) rfl ?_
    exact hl 0 (Nat.zero_le _) _ _ rfl rfl
  · rw [if_neg h4]
    by_cases h3 : a 3 = 0
    · refine xLd (N := 12) (n := 964) (i := 3) (F := fun zq => ev m_M_doubleErrors 16 [some (eR 1), some (eI 0), some (eI 0)] [eI (g zq), eI 0] ([eA 0 964 g, mZ (eUp P 10 0), eA 0 144 mk, eA 0 24 fr], c)) (k := 3) rfl (show wr 3 = ((3 : Nat) : Int) by decide) (by omega) ?_
      refine xLtF (N := 1) (x := 0) (y := g 3) (A := ev m_M_doubleErrors 19 [some (eR 1), some (eI 0), some (eI 0)] [] ([eA 0 964 g, mZ (eUp P 10 0), eA 0 144 mk, eA 0 24 fr], c)) (B := ev m_M_doubleErrors 58 [some (eR 1), some (eI 0), some (eI 0)] [] ([eA 0 964 g, mZ (eUp P 10 0), eA 0 144 mk, eA 0 24 fr], c)) rfl (show wr 0 = 0 by decide) (wr_id (by omega) (by omega)) (by omega) ?_
      refine xSeg (N := 2) (r := some (.inl (some (eI 0)), ([eA 0 964 g, mZ (eUp P 10 0), eA 0 144 mk, eA 0 24 fr], c))) rfl ?_
      rfl
    · refine xLd (N := 12) (n := 964) (i := 3) (F := fun zq => ev m_M_doubleErrors 16 [some (eR 1), some (eI 0), some (eI 0)] [eI (g zq), eI 0] ([eA 0 964 g, mZ (eUp P 10 0), eA 0 144 mk, eA 0 24 fr], c)) (k := 3) rfl (show wr 3 = ((3 : Nat) : Int) by decide) (by omega) ?_
      refine xLtT (N := 1) (x := 0) (y := g 3) (A := ev m_M_doubleErrors 19 [some (eR 1), some (eI 0), some (eI 0)] [] ([eA 0 964 g, mZ (eUp P 10 0), eA 0 144 mk, eA 0 24 fr], c)) (B := ev m_M_doubleErrors 58 [some (eR 1), some (eI 0), some (eI 0)] [] ([eA 0 964 g, mZ (eUp P 10 0), eA 0 144 mk, eA 0 24 fr], c)) rfl (show wr 0 = 0 by decide) (wr_id (by omega) (by omega)) (by omega) ?_
      refine xLd (N := 4) (n := 964) (i := 4) (F := fun zq => ev m_M_doubleErrors 25 [some (eR 1), some (eI 0), some (eI 0)] [eI (g zq)] ([eA 0 964 g, mZ (eUp P 10 0), eA 0 144 mk, eA 0 24 fr], c)) (k := 4) rfl (show wr 4 = ((4 : Nat) : Int) by decide) (by omega) ?_
      refine xLtT (N := 2) (x := 1) (y := g 4) (A := ev m_M_doubleErrors 58 [some (eR 1), some (eI 0), some (eI 0)] [] ([eA 0 964 g, mZ (eUp P 10 0), eA 0 144 mk, eA 0 24 fr], c)) (B := ev m_M_doubleErrors 29 [some (eR 1), some (eI 0), some (eI 0)] [] ([eA 0 964 g, mZ (eUp P 10 0), eA 0 144 mk, eA 0 24 fr], c)) rfl (show wr 1 = 1 by decide) (wr_id (by omega) (by omega)) (by omega) ?_
      refine xSeg (N := 2) (r := some (.inl (some (eI 0)), ([eA 0 964 g, mZ (eUp P 10 0), eA 0 144 mk, eA 0 24 fr], c))) rfl ?_
      rfl
theorem z_lacksOf {g mk fr P : Nat → Int} {a : eRow} {c : Nat × Nat} (hg : rg g a) (hI : iA a) (hmk : mkOk a mk) {x z : Int} {k w : Nat} (hx : x = (k : Int)) (hz : z = (w : Int)) (hk : k < a 3) (hw : w < a 2) (hl9 : wl a w = sl a k) : ev m_M_lacksOf 0 [some (eR 1), some (eI x), some (eI z)] [] ([eA 0 964 g, mZ P, eA 0 144 mk, eA 0 24 fr], c) = some (.inl (some (eI ((fb_ct (fun p => lk (oth a) (plc a) (lt a) (op a) k p w) (sl a k) : Nat) : Int))), ([eA 0 964 g, mZ P, eA 0 144 mk, eA 0 24 fr], c)) := by
  obtain ⟨hG, hV, hO, hT, hM⟩ := hI
  have bG := hG.1
  have bV := hV.1
  have b5 := iT_24 bG.2.2.2.2 hT
  have e0 := hg 0 (by omega)
  have e1 := hg 1 (by omega)
  have e2 := hg 2 (by omega)
  have e3 := hg 3 (by omega)
  have e4 := hg 4 (by omega)
  have e5 := hg 5 (by omega)
  have hsl : g (148 + 4 * k + 2) = ((sl a k : Nat) : Int) := hg (148 + 4 * k + 2) (by omega)
  have hs6 := (sl_at hG hk).2.2.1
  have hl : ∀ p : Nat, p ≤ sl a k → ∀ s y : Int, s = ((fb_ct (fun p => lk (oth a) (plc a) (lt a) (op a) k p w) p : Nat) : Int) → y = ((p : Nat) : Int) → ev m_M_lacksOf 5 [some (eR 1), some (eI x), some (eI z), some (eI s), some (eI y)] [] ([eA 0 964 g, mZ P, eA 0 144 mk, eA 0 24 fr], c) = some (.inl (some (eI ((fb_ct (fun p => lk (oth a) (plc a) (lt a) (op a) k p w) (sl a k) : Nat) : Int))), ([eA 0 964 g, mZ P, eA 0 144 mk, eA 0 24 fr], c)) := by
    refine loop_up ?_ ?_
    · intro s y hs hy
      refine xCallI (N := 5) (v := 148 + 4 * x) (M2 := m_M_lacksOf) (pc2 := 12) (ls2 := [some (eR 1), some (eI x), some (eI z), some (eI s), some (eI y)]) (st2 := [eR 0, eI y]) (y := m_M_ofSlot) (as := [some (eI x)]) (w2 := ([eA 0 964 g, mZ P, eA 0 144 mk, eA 0 24 fr], c)) rfl n_ofSlot (fun r12 hr12 => ?_)
      refine xLd (N := 3) (n := 964) (i := r12 + 2) (F := fun zq => ev m_M_lacksOf 18 [some (eR 1), some (eI x), some (eI z), some (eI s), some (eI y)] [eI (g zq), eI y] ([eA 0 964 g, mZ P, eA 0 144 mk, eA 0 24 fr], c)) (k := (148 + 4 * k) + 2) rfl (wr_nat (by omega) (by omega)) (by omega) ?_
      refine xLtF (N := 1) (x := y) (y := g ((148 + 4 * k) + 2)) (A := ev m_M_lacksOf 21 [some (eR 1), some (eI x), some (eI z), some (eI s), some (eI y)] [] ([eA 0 964 g, mZ P, eA 0 144 mk, eA 0 24 fr], c)) (B := ev m_M_lacksOf 45 [some (eR 1), some (eI x), some (eI z), some (eI s), some (eI y)] [] ([eA 0 964 g, mZ P, eA 0 144 mk, eA 0 24 fr], c)) rfl (wr_id (by omega) (by omega)) (wr_id (by omega) (by omega)) (by omega) ?_
      refine xSeg (N := 2) (r := some (.inl (some (eI s)), ([eA 0 964 g, mZ P, eA 0 144 mk, eA 0 24 fr], c))) rfl ?_
      exact lf hs
    · intro p hp ih s y hs hy
      have hid := n_lacks (fr := fr) (P := P) (c := (0, 0)) hg hG hV hO hmk hx hz hy hk hp hw hl9
      obtain ⟨b9, hb9⟩ : ∃ b9 : Bool, b9 = lk (oth a) (plc a) (lt a) (op a) k p w := ⟨_, rfl⟩
      rw [← hb9] at hid
      obtain ⟨zi, hzi⟩ : ∃ zi : Int, zi = bI b9 := ⟨_, rfl⟩
      rw [← hzi] at hid
      have hq := bI_1 hzi
      have hsT : zi = 1 → fb_ct (fun p => lk (oth a) (plc a) (lt a) (op a) k p w) (p + 1) = fb_ct (fun p => lk (oth a) (plc a) (lt a) (op a) k p w) p + 1 := fun h => ct_T (hb9.symm.trans (hq.2.1.mp h))
      have hsF : zi = 0 → fb_ct (fun p => lk (oth a) (plc a) (lt a) (op a) k p w) (p + 1) = fb_ct (fun p => lk (oth a) (plc a) (lt a) (op a) k p w) p := fun h => ct_F (hb9.symm.trans (hq.2.2.mp h))
      refine xCallI (N := 5) (v := 148 + 4 * x) (M2 := m_M_lacksOf) (pc2 := 12) (ls2 := [some (eR 1), some (eI x), some (eI z), some (eI s), some (eI y)]) (st2 := [eR 0, eI y]) (y := m_M_ofSlot) (as := [some (eI x)]) (w2 := ([eA 0 964 g, mZ P, eA 0 144 mk, eA 0 24 fr], c)) rfl n_ofSlot (fun r12 hr12 => ?_)
      refine xLd (N := 3) (n := 964) (i := r12 + 2) (F := fun zq => ev m_M_lacksOf 18 [some (eR 1), some (eI x), some (eI z), some (eI s), some (eI y)] [eI (g zq), eI y] ([eA 0 964 g, mZ P, eA 0 144 mk, eA 0 24 fr], c)) (k := (148 + 4 * k) + 2) rfl (wr_nat (by omega) (by omega)) (by omega) ?_
      refine xLtT (N := 1) (x := y) (y := g ((148 + 4 * k) + 2)) (A := ev m_M_lacksOf 21 [some (eR 1), some (eI x), some (eI z), some (eI s), some (eI y)] [] ([eA 0 964 g, mZ P, eA 0 144 mk, eA 0 24 fr], c)) (B := ev m_M_lacksOf 45 [some (eR 1), some (eI x), some (eI z), some (eI s), some (eI y)] [] ([eA 0 964 g, mZ P, eA 0 144 mk, eA 0 24 fr], c)) rfl (wr_id (by omega) (by omega)) (wr_id (by omega) (by omega)) (by omega) ?_
      refine xCallW (N := 7) (M2 := m_M_lacksOf) (pc2 := 30) (ls2 := [some (eR 1), some (eI x), some (eI z), some (eI s), some (eI y)]) (st2 := []) (y := m_M_lacks) (as := [some (eR 1), some (eR 0), some (eI x), some (eI z), some (eI y)]) (w2 := ([eA 0 964 g, mZ P, eA 0 144 mk, eA 0 24 fr], c)) rfl (zUp hid rfl rfl rfl) ?_
      refine xEq (N := 1) (x := zi) (y := 0) (A := ev m_M_lacksOf 39 [some (eR 1), some (eI x), some (eI z), some (eI s), some (eI y)] [] ([eA 0 964 g, mZ P, eA 0 144 mk, eA 0 24 fr], c)) (B := ev m_M_lacksOf 36 [some (eR 1), some (eI x), some (eI z), some (eI s), some (eI y)] [] ([eA 0 964 g, mZ P, eA 0 144 mk, eA 0 24 fr], c)) rfl (wr_id (by omega) (by omega)) (show wr 0 = 0 by decide) (fun h33 => ?_) (fun h33 => ?_)
      · refine xSeg (N := 2) (r := ev m_M_lacksOf 5 [some (eR 1), some (eI x), some (eI z), some (eI s), some (eI (y + 1))] [] ([eA 0 964 g, mZ P, eA 0 144 mk, eA 0 24 fr], c)) rfl ?_
        first | (have := hsF (by omega); exact ih _ _ (by omega) (by omega)) | (have := hsT (by omega); exact ih _ _ (by omega) (by omega))
      · refine xSeg (N := 3) (r := ev m_M_lacksOf 5 [some (eR 1), some (eI x), some (eI z), some (eI (s + 1)), some (eI (y + 1))] [] ([eA 0 964 g, mZ P, eA 0 144 mk, eA 0 24 fr], c)) rfl ?_
        first | (have := hsF (by omega); exact ih _ _ (by omega) (by omega)) | (have := hsT (by omega); exact ih _ _ (by omega) (by omega))
  refine xSeg (N := 4) (r := ev m_M_lacksOf 5 [some (eR 1), some (eI x), some (eI z), some (eI 0), some (eI 0)] [] ([eA 0 964 g, mZ P, eA 0 144 mk, eA 0 24 fr], c)) rfl ?_
  exact hl 0 (Nat.zero_le _) _ _ rfl rfl
