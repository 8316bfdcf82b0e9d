/-! A word is added. -/
def wd1 (a : eRow) (cd L : Nat) : eRow := up (up (up a (88 + a 2) cd) (118 + a 2) L) 2 (a 2 + 1)
def adA (a : eRow) (cd L : Nat) : eRow := bgA (wd1 a cd L)
theorem wd1_ne {a : eRow} {cd L i : Nat} (h1 : i ≠ 88 + a 2) (h2 : i ≠ 118 + a 2) (h3 : i ≠ 2) : wd1 a cd L i = a i := by
  unfold wd1
  rw [up_ne h3, up_ne h2, up_ne h1]
theorem wd1_2 {a : eRow} {cd L : Nat} : wd1 a cd L 2 = a 2 + 1 := by unfold wd1; exact up_at
theorem wd1_l {a : eRow} {cd L : Nat} : wl (wd1 a cd L) (a 2) = L := by
  unfold wl wd1
  rw [up_ne (by omega), up_at]
theorem wd1_c {a : eRow} {cd L : Nat} : wd1 a cd L (88 + a 2) = cd := by
  unfold wd1
  rw [up_ne (by omega), up_ne (by omega), up_at]
theorem wd1_gm {a : eRow} {cd L : Nat} (h : a 2 < 30) : gm a (wd1 a cd L) := fun i hi => wd1_ne (by omega) (by omega) (by omega)
theorem wd1_wl {a : eRow} {cd L w : Nat} (h : a 2 < 30) (hw : w < a 2) : wl (wd1 a cd L) w = wl a w := wd1_ne (by omega) (by omega) (by omega)
theorem wd1_dgt {a : eRow} {cd L w i : Nat} (h : a 2 < 30) (hw : w < a 2) : dgt (wd1 a cd L) w i = dgt a w i := by
  unfold dgt
  rw [wd1_wl h hw, wd1_ne (by omega) (by omega) (by omega)]
theorem wd1_lt {a : eRow} {cd L w i : Nat} (h : a 2 < 30) (hw : w < a 2) : lt (wd1 a cd L) w i = lt a w i := by
  unfold lt
  rw [wd1_dgt h hw]
theorem wd1_dg {a : eRow} {cd L i : Nat} : dgt (wd1 a cd L) (a 2) i = cd / 32 ^ (L - 1 - i) % 32 := by
  unfold dgt
  rw [wd1_l, wd1_c]
theorem wd1_all {a : eRow} {cd L : Nat} (hG : iG a) (hV : iV a) (h : a 2 < 30) (hc : cdOk cd L) : iG (wd1 a cd L) ∧ iV (wd1 a cd L) := by
  refine ⟨gm_iG (wd1_gm h) hG, by rw [wd1_2]; omega, fun w hw => ?_⟩
  rw [wd1_2] at hw
  by_cases he : w = a 2
  · subst he
    rw [wd1_l, wd1_c]
    refine ⟨hc.1, hc.2.1, hc.2.2.1, fun i hi => ?_⟩
    rw [wd1_dg]
    exact hc.2.2.2 i hi
  · have hw2 : w < a 2 := by omega
    rw [wd1_wl h hw2, wd1_ne (by omega) (by omega) (by omega)]
    have hv := hV.2 w hw2
    refine ⟨hv.1, hv.2.1, hv.2.2.1, fun i hi => ?_⟩
    rw [wd1_dgt h hw2]
    exact hv.2.2.2 i hi
theorem iA_ad {a : eRow} {cd L : Nat} (hI : iA a) (h : a 2 < 30) (hc : cdOk cd L) : iA (adA a cd L) := by
  obtain ⟨g1, g2⟩ := wd1_all hI.1 hI.2.1 h hc
  exact iA_bg g1 g2
theorem wd1_hold {a : eRow} {cd L : Nat} {f : Nat → Nat} (h : a 2 < 30) (hf : ∀ p, p < L → f p = cd / 32 ^ (L - 1 - p) % 32 - 1) (l : Nat) : hold (wd1 a cd L) l = hold a l + (if anyN (fun q => decide (f q = l)) L then 1 else 0) := by
  unfold hold
  rw [wd1_2, fb_ct_succ]
  have h1 : fb_ct (hlB (wd1 a cd L) l) (a 2) = fb_ct (hlB a l) (a 2) := fb_ct_cong (fun w hw => by
    unfold hlB
    rw [wd1_wl h hw]
    exact anyN_cong (fun i hi => by rw [wd1_lt h hw]))
  have h2 : hlB (wd1 a cd L) l (a 2) = anyN (fun q => decide (f q = l)) L := by
    unfold hlB
    rw [wd1_l]
    exact anyN_cong (fun i hi => by unfold lt; rw [wd1_dg, hf i hi])
  rw [h1, h2]
set_option maxRecDepth 100000
theorem c_putWord {S : wS} {a : eRow} {v z : Int} {F L n cd : Nat} {t : Nat → Int} (hA : wA S a) (hI : iA a) (h30 : a 2 < 30) (hc : cdOk cd L) (hv : v = (F : Int)) (hz : z = (L : Int)) (hF : F + L ≤ n) (hn : n ≤ 600) (ht : ∀ p, p < L → t (F + p) = ((96 + cd / 32 ^ (L - 1 - p) % 32 : Nat) : Int)) : ∃ S' : wS, wA S' (adA a cd L) ∧ ev m_W_putWord 0 [some (eR 0), some (eR 20), some (eI v), some (eI z)] [] (wC S ++ [eA 0 n t], (0, 0)) = some (.inl none, (wC S' ++ [eA 0 n t], (0, 0))) := by
  obtain ⟨hG, hV, hO, hT, hM⟩ := hI
  obtain ⟨g1, g2⟩ := wd1_all hG hV h30 hc
  obtain ⟨v1, v2, v3, v4⟩ := hA.2.1
  have hh : ∀ l, hold a l ≤ 30 := fun l => Nat.le_trans (hold_le a l) (by omega)
  have hadd := c_add (S := S) (c := (0, 0)) (m := a 2) (F := F) (L := L) (n := n) (f := fun p => cd / 32 ^ (L - 1 - p) % 32 - 1) (hd := hold a) (t := t) v1 h30 (fun l hl => ⟨v4 l hl, hh l⟩) hv hz hc.2.1 hF hn (fun p hp => by
    have h9 := hc.2.2.2 p hp
    have h8 := ht p hp
    refine ⟨?_, by omega⟩
    rw [h8]
    generalize cd / 32 ^ (L - 1 - p) % 32 = q at h9
    omega)
  generalize hS1 : uI (uI (uS (uS S 13 (aL (fun p => cd / 32 ^ (L - 1 - p) % 32 - 1) (S 13) (a 2) L)) 14 (aH (fun p => cd / 32 ^ (L - 1 - p) % 32 - 1) (S 14) L)) 12 (a 2) z) 11 0 (S 11 0 + 1) = S1 at hadd
  have hne : ∀ b, (b ≤ 10 ∨ 15 ≤ b) → S1 b = S b := fun b hb => by
    rw [← hS1, uI_ne (by omega), uI_ne (by omega), uS_ne (by omega), uS_ne (by omega)]
  have uat : ∀ (T : wS) (v : Int), uI T 11 0 v 11 0 = v := fun T v => by unfold uI; rw [uS_at, eUp_at]
  have s11 : S1 11 0 = S 11 0 + 1 := by rw [← hS1, uat]
  have s12 : S1 12 = eUp (S 12) (a 2) z := by rw [← hS1, uI_ne (by omega)]; rfl
  have s13 : S1 13 = aL (fun p => cd / 32 ^ (L - 1 - p) % 32 - 1) (S 13) (a 2) L := by rw [← hS1, uI_ne (by omega), uI_ne (by omega), uS_ne (by omega), uS_at]
  have s14 : S1 14 = aH (fun p => cd / 32 ^ (L - 1 - p) % 32 - 1) (S 14) L := by rw [← hS1, uI_ne (by omega), uI_ne (by omega), uS_at]
  have hwV : wV S1 (wd1 a cd L) := by
    refine ⟨by rw [s11, wd1_2]; omega, fun w hw => ?_, fun w p hw hp => ?_, fun l hl => ?_⟩
    · rw [wd1_2] at hw
      rw [s12]
      by_cases he : w = a 2
      · rw [he, eUp_at, wd1_l]; exact hz
      · rw [eUp_ne he, wd1_wl h30 (by omega)]; exact v2 w (by omega)
    · rw [wd1_2] at hw
      rw [s13]
      by_cases he : w = a 2
      · subst he
        rw [wd1_l] at hp
        unfold aL lt
        rw [if_pos (by omega), wd1_dg, Nat.add_sub_cancel_left]
      · have hw2 : w < a 2 := by omega
        rw [wd1_wl h30 hw2] at hp
        have h6 := (hV.2 w hw2).2.1
        unfold aL
        rw [if_neg (by omega), wd1_lt h30 hw2]
        exact v3 w p hw2 hp
    · rw [s14, wd1_hold (f := fun p => cd / 32 ^ (L - 1 - p) % 32 - 1) h30 (fun p hp => rfl) l]
      unfold aH
      rw [v4 l hl]
      cases anyN (fun q => decide ((fun p => cd / 32 ^ (L - 1 - p) % 32 - 1) q = l)) L with
      | true => rfl
      | false => rfl
  obtain ⟨S2, S', q1, q2, q3⟩ := c_anew (S := S1) (c := (0, 0)) (a := wd1 a cd L) (wG_S (fun b hb => hne b (by omega)) (wG_gm (wd1_gm h30) hG hA.1)) hwV g1 g2 (by
    rw [hne 0 (by omega), wd1_ne (by omega) (by omega) (by omega), wd1_ne (by omega) (by omega) (by omega), wd1_ne (by omega) (by omega) (by omega), wd1_ne (by omega) (by omega) (by omega)]
    exact hA.2.2.1.1)
  have u2 := winUse0 (post := [eA 0 n t]) (d := (0, 0)) q2 rfl
  have u3 := winUse0 (post := [eA 0 n t]) (d := (0, 0)) q3 rfl
  refine ⟨S', q1, ?_⟩
  refine xCallWV (N := 6) (M2 := m_W_putWord) (pc2 := 7) (ls2 := [some (eR 0), some (eR 20), some (eI v), some (eI z)]) (st2 := []) (y := m_V_add) (as := [some (eR 11), some (eR 20), some (eI v), some (eI z)]) (w2 := (wC S ++ [eA 0 n t], (0, 0))) rfl hadd ?_
  refine xCallWV (N := 2) (M2 := m_W_putWord) (pc2 := 11) (ls2 := [some (eR 0), some (eR 20), some (eI v), some (eI z)]) (st2 := []) (y := m_W_beginAnew) (as := [some (eR 0)]) (w2 := (wC S1 ++ [eA 0 n t], (0, 0))) rfl u2 ?_
  refine xCallWV (N := 2) (M2 := m_W_putWord) (pc2 := 15) (ls2 := [some (eR 0), some (eR 20), some (eI v), some (eI z)]) (st2 := []) (y := m_W_narrow) (as := [some (eR 0)]) (w2 := (wC S2 ++ [eA 0 n t], (0, 0))) rfl u3 ?_
  refine xSeg (N := 1) (r := some (.inl none, (wC S' ++ [eA 0 n t], (0, 0)))) rfl ?_
  rfl
/-! The model: a word, a letter. -/
theorem n_adds {g mk fr P : Nat → Int} {a : eRow} {c : Nat × Nat} {x : Int} {cd : Nat} (hg : rg g a) (hI : iA a) (h30 : a 2 < 30) (hx : x = (cd : Int)) (hc : cd < 2147483648) (h0 : loN cd ≠ 0) : ∃ g' mk' fr' : Nat → Int, rg g' (adA a cd (loN cd)) ∧ ev m_M_adds 0 [some (eR 1), some (eR 0), some (eI x)] [] ([eA 0 964 g, mO P, eA 0 144 mk, eA 0 24 fr], c) = some (.inl (some (eI (g' 2 - 1))), ([eA 0 964 g', mO P, eA 0 144 mk', eA 0 24 fr'], c)) := by
  obtain ⟨hG, hV, hO, hT, hM⟩ := hI
  obtain ⟨p1, p2⟩ := wd1_all hG hV h30 (loN_ok hc h0)
  have g2 := hg 2 (by omega)
  have e1 : eUp g (88 + a 2) x 2 = g 2 := eUp_ne (by omega)
  have e2 : eUp (eUp g (88 + a 2) x) (118 + a 2) ((loN cd : Nat) : Int) 2 = g 2 := by rw [eUp_ne (by omega), e1]
  have e3 : (118 + eUp g (88 + a 2) x 2).toNat = 118 + a 2 := by rw [e1, g2]; omega
  have hr : rg (eUp (eUp (eUp g (88 + a 2) x) (118 + a 2) ((loN cd : Nat) : Int)) 2 (g 2 + 1)) (wd1 a cd (loN cd)) := up_rgi (up_rgi (up_rgi hg hx) rfl) (by omega)
  generalize hgg : eUp (eUp (eUp g (88 + a 2) x) (118 + a 2) ((loN cd : Nat) : Int)) 2 (g 2 + 1) = g3 at hr
  obtain ⟨g', mk', fr', q1, q2⟩ := n_beginAnew (mk := mk) (fr := fr) (P := P) (c := c) hr p1 p2
  have q3 := q1 2 (by omega)
  have q5 := (iA_bg p1 p2).2.1.1
  have q6 : bgA (wd1 a cd (loN cd)) 2 ≤ 30 := q5
  refine ⟨g', mk', fr', q1, ?_⟩
  refine xLd (N := 5) (n := 964) (i := 2) (F := fun zq => ev m_M_adds 6 [some (eR 1), some (eR 0), some (eI x)] [eI (g zq), eI 88, eR 0] ([eA 0 964 g, mO P, eA 0 144 mk, eA 0 24 fr], c)) (k := 2) rfl (show wr 2 = ((2 : Nat) : Int) by decide) (by omega) ?_
  refine xLd (N := 3) (n := 964) (i := 88 + (g 2)) (F := fun zq => ev m_M_adds 9 [some (eR 1), some (eR 0), some (eI x)] [] ([eA 0 964 (eUp g zq x), mO P, eA 0 144 mk, eA 0 24 fr], c)) (k := 88 + (a 2)) rfl (wr_nat (by omega) (by omega)) (by omega) ?_
  refine xLd (N := 5) (n := 964) (i := 2) (F := fun zq => ev m_M_adds 15 [some (eR 1), some (eR 0), some (eI x)] [eI ((eUp g (88 + (a 2)) x) zq), eI 118, eR 0] ([eA 0 964 (eUp g (88 + (a 2)) x), mO P, eA 0 144 mk, eA 0 24 fr], c)) (k := 2) rfl (show wr 2 = ((2 : Nat) : Int) by decide) (by omega) ?_
  refine xCallI (N := 3) (v := ((loN cd : Nat) : Int)) (M2 := m_M_adds) (pc2 := 17) (ls2 := [some (eR 1), some (eR 0), some (eI x)]) (st2 := [eI (118 + ((eUp g (88 + (a 2)) x) 2)), eR 0]) (y := m_M_lettersOf) (as := [some (eI x)]) (w2 := ([eA 0 964 (eUp g (88 + (a 2)) x), mO P, eA 0 144 mk, eA 0 24 fr], c)) rfl (n_lettersOf hx hc) (fun r17 hr17 => ?_)
  refine xLd (N := 1) (n := 964) (i := 118 + ((eUp g (88 + (a 2)) x) 2)) (F := fun zq => ev m_M_adds 21 [some (eR 1), some (eR 0), some (eI x)] [] ([eA 0 964 (eUp (eUp g (88 + (a 2)) x) zq r17), mO P, eA 0 144 mk, eA 0 24 fr], c)) (k := (118 + ((eUp g (88 + (a 2)) x) 2)).toNat) rfl (wr_nat (by omega) (by omega)) (by omega) ?_
  refine xLd (N := 4) (n := 964) (i := 2) (F := fun zq => ev m_M_adds 25 [some (eR 1), some (eR 0), some (eI x)] [eI ((eUp (eUp g (88 + (a 2)) x) ((118 + ((eUp g (88 + (a 2)) x) 2)).toNat) r17) zq), eI 2, eR 0] ([eA 0 964 (eUp (eUp g (88 + (a 2)) x) ((118 + ((eUp g (88 + (a 2)) x) 2)).toNat) r17), mO P, eA 0 144 mk, eA 0 24 fr], c)) (k := 2) rfl (show wr 2 = ((2 : Nat) : Int) by decide) (by omega) ?_
  refine xLd (N := 3) (n := 964) (i := 2) (F := fun zq => ev m_M_adds 28 [some (eR 1), some (eR 0), some (eI x)] [] ([eA 0 964 (eUp (eUp (eUp g (88 + (a 2)) x) ((118 + ((eUp g (88 + (a 2)) x) 2)).toNat) r17) zq (((eUp (eUp g (88 + (a 2)) x) ((118 + ((eUp g (88 + (a 2)) x) 2)).toNat) r17) 2) + 1)), mO P, eA 0 144 mk, eA 0 24 fr], c)) (k := 2) rfl (show wr 2 = ((2 : Nat) : Int) by decide) (by omega) ?_
  rw [hr17, e3, e2, hgg]
  refine xCallWV (N := 3) (M2 := m_M_adds) (pc2 := 30) (ls2 := [some (eR 1), some (eR 0), some (eI x)]) (st2 := []) (y := m_M_beginAnew) (as := [some (eR 1), some (eR 0)]) (w2 := ([eA 0 964 g3, mO P, eA 0 144 mk, eA 0 24 fr], c)) rfl q2 ?_
  refine xLd (N := 3) (n := 964) (i := 2) (F := fun zq => ev m_M_adds 36 [some (eR 1), some (eR 0), some (eI x)] [eI (g' zq)] ([eA 0 964 g', mO P, eA 0 144 mk', eA 0 24 fr'], c)) (k := 2) rfl (show wr 2 = ((2 : Nat) : Int) by decide) (by omega) ?_
  refine xSeg (N := 3) (r := some (.inl (some (eI ((g' 2) - 1))), ([eA 0 964 g', mO P, eA 0 144 mk', eA 0 24 fr'], c))) rfl ?_
  rfl
theorem n_gives {g mk fr P : Nat → Int} {a : eRow} {c : Nat × Nat} {x y : Int} {e v : Nat} (hg : rg g a) (hI : iA a) (hx : x = (e : Int)) (hy : y = (v : Int)) (he : e < 36) (hv : v = 0 ∨ (97 ≤ v ∧ v ≤ 122)) : ∃ g' mk' fr' : Nat → Int, rg g' (lvA a e v) ∧ ev m_M_gives 0 [some (eR 1), some (eR 0), some (eI x), some (eI y)] [] ([eA 0 964 g, mO P, eA 0 144 mk, eA 0 24 fr], c) = some (.inl (some (eI ((a (52 + e) : Nat) : Int))), ([eA 0 964 g', mO P, eA 0 144 mk', eA 0 24 fr'], c)) := by
  obtain ⟨p1, p2⟩ := lv_all (v := v) hI.1 hI.2.1 he hv
  have ge := hg (52 + e) (by omega)
  have hr : rg (eUp g (52 + e) y) (up a (52 + e) v) := up_rgi hg hy
  obtain ⟨g', mk', fr', q1, q2⟩ := n_beginAnew (mk := mk) (fr := fr) (P := P) (c := c) hr p1 p2
  refine ⟨g', mk', fr', q1, ?_⟩
  rw [← ge]
  refine xLd (N := 5) (n := 964) (i := 52 + x) (F := fun zq => ev m_M_gives 6 [some (eR 1), some (eR 0), some (eI x), some (eI y)] [eI (g zq)] ([eA 0 964 g, mO P, eA 0 144 mk, eA 0 24 fr], c)) (k := 52 + e) rfl (wr_nat (by omega) (by omega)) (by omega) ?_
  refine xLd (N := 7) (n := 964) (i := 52 + x) (F := fun zq => ev m_M_gives 15 [some (eR 1), some (eR 0), some (eI x), some (eI y), some (eI (g (52 + e)))] [] ([eA 0 964 (eUp g zq y), mO P, eA 0 144 mk, eA 0 24 fr], c)) (k := 52 + e) rfl (wr_nat (by omega) (by omega)) (by omega) ?_
  refine xCallWV (N := 3) (M2 := m_M_gives) (pc2 := 17) (ls2 := [some (eR 1), some (eR 0), some (eI x), some (eI y), some (eI (g (52 + e)))]) (st2 := []) (y := m_M_beginAnew) (as := [some (eR 1), some (eR 0)]) (w2 := ([eA 0 964 (eUp g (52 + e) y), mO P, eA 0 144 mk, eA 0 24 fr], c)) rfl q2 ?_
  refine xSeg (N := 2) (r := some (.inl (some (eI (g (52 + e)))), ([eA 0 964 g', mO P, eA 0 144 mk', eA 0 24 fr'], c))) rfl ?_
  rfl
