/-! Rows with the same grid, rows with the same words. -/
def gm (a a' : eRow) : Prop := ∀ i, (i = 0 ∨ i = 1 ∨ i = 3 ∨ (16 ≤ i ∧ i < 88) ∨ (148 ≤ i ∧ i < 316)) → a' i = a i
def vm (a a' : eRow) : Prop := ∀ i, (i = 2 ∨ (88 ≤ i ∧ i < 148)) → a' i = a i
theorem gm_sl {a a' : eRow} (h : gm a a') {k : Nat} (hk : k < 24) : sx a' k = sx a k ∧ sy a' k = sy a k ∧ sl a' k = sl a k ∧ sd a' k = sd a k := ⟨h _ (by omega), h _ (by omega), h _ (by omega), h _ (by omega)⟩
theorem gm_cel {a a' : eRow} (h : gm a a') {k p : Nat} (hk : k < 24) : cel a' k p = cel a k p := by
  obtain ⟨h1, h2, h3, h4⟩ := gm_sl h hk
  unfold cel
  rw [h1, h2, h4]
theorem gm_oth {a a' : eRow} (h : gm a a') {k p : Nat} (hk : k < 24) (hc : cel a k p < 36) : oth a' k p = oth a k p := by
  obtain ⟨h1, h2, h3, h4⟩ := gm_sl h hk
  unfold oth
  rw [h4, gm_cel h hk, h _ (by split <;> omega)]
theorem gm_pin {a a' : eRow} (h : gm a a') {j e : Nat} (hj : j < 24) : pin a' j e = pin a j e := by
  obtain ⟨h1, h2, h3, h4⟩ := gm_sl h hj
  unfold pin
  rw [h1, h2, h4]
theorem gm_iG {a a' : eRow} (h : gm a a') (hG : iG a) : iG a' := by
  have e0 : a' 0 = a 0 := h 0 (by omega)
  have e1 : a' 1 = a 1 := h 1 (by omega)
  have e3 : a' 3 = a 3 := h 3 (by omega)
  obtain ⟨g1, g2, g3, g4, g5⟩ := hG
  refine ⟨by rw [e0, e1, e3]; exact g1, fun e he => ?_, fun k hk => ?_, fun e he => ?_, fun k p hk hp => ?_⟩
  · rw [h (16 + e) (by omega), h (52 + e) (by omega), h (244 + e) (by omega), h (280 + e) (by omega), e3]
    exact g2 e he
  · rw [e3] at hk
    obtain ⟨h1, h2, h3, h4⟩ := gm_sl h (k := k) (by omega)
    rw [h1, h2, h3, h4]
    exact g3 k hk
  · have b := g2 e he
    obtain ⟨h1, h2, h3, h4⟩ := gm_sl h (k := a (244 + e) - 1) (by omega)
    obtain ⟨k1, k2, k3, k4⟩ := gm_sl h (k := a (280 + e) - 1) (by omega)
    rw [h (244 + e) (by omega), h (280 + e) (by omega), h1, h2, h3, h4, k1, k2, k3, k4]
    exact g4 e he
  · rw [e3] at hk
    obtain ⟨h1, h2, h3, h4⟩ := gm_sl h (k := k) (by omega)
    rw [h3] at hp
    have hc := cel_lt (a := a) ⟨g1, g2, g3, g4, g5⟩ hk hp
    rw [h4, gm_cel h (by omega), h _ (by split <;> omega)]
    exact g5 k p hk hp
theorem gm_plc {a a' : eRow} (h : gm a a') (hG : iG a) {k p : Nat} (hk : k < a 3) (hp : p < sl a k) : oth a' k p = oth a k p ∧ (oth a k p ≠ 0 → plc a' k p = plc a k p) := by
  have hn := hG.1.2.2.2.2
  have hc := cel_lt hG hk hp
  have ho := gm_oth h (k := k) (p := p) (by omega) hc
  refine ⟨ho, fun h0 => ?_⟩
  obtain ⟨c1, _⟩ := cross hG hk hp h0
  unfold plc
  rw [ho, gm_cel h (by omega), gm_pin h (by omega)]
theorem wG_gm {S : wS} {a a' : eRow} (h : gm a a') (hG : iG a) (hw : wG S a) : wG S a' := by
  have e0 : a' 0 = a 0 := h 0 (by omega)
  have e1 : a' 1 = a 1 := h 1 (by omega)
  have e3 : a' 3 = a 3 := h 3 (by omega)
  have hn := hG.1.2.2.2.2
  obtain ⟨⟨h1, h2, h3⟩, h4⟩ := hw
  refine ⟨⟨by rw [e0, e1, e3]; exact h1, fun e he => ?_, fun k hk => ?_⟩, fun k hk p hp => ?_⟩
  · rw [h (16 + e) (by omega), h (52 + e) (by omega), h (244 + e) (by omega), h (280 + e) (by omega)]
    exact h2 e he
  · rw [e3] at hk
    obtain ⟨q1, q2, q3, q4⟩ := gm_sl h (k := k) (by omega)
    rw [q1, q2, q3, q4]
    exact h3 k hk
  · rw [e3] at hk
    rw [(gm_sl h (k := k) (by omega)).2.2.1] at hp
    obtain ⟨q1, q2⟩ := gm_plc h hG hk hp
    have hx := h4 k hk p hp
    unfold opl at hx ⊢
    rw [q1]
    by_cases h0 : oth a k p = 0
    · rw [if_pos h0] at hx ⊢
      exact hx
    · rw [if_neg h0] at hx ⊢
      rw [q2 h0]
      exact hx
theorem vm_wl {a a' : eRow} (h : vm a a') {w : Nat} (hw : w < 30) : wl a' w = wl a w := h _ (by omega)
theorem vm_dgt {a a' : eRow} (h : vm a a') {w i : Nat} (hw : w < 30) : dgt a' w i = dgt a w i := by
  unfold dgt
  rw [vm_wl h hw, h _ (by omega)]
theorem vm_lt {a a' : eRow} (h : vm a a') {w i : Nat} (hw : w < 30) : lt a' w i = lt a w i := by
  unfold lt
  rw [vm_dgt h hw]
theorem vm_iV {a a' : eRow} (h : vm a a') (hV : iV a) : iV a' := by
  have e2 : a' 2 = a 2 := h 2 (by omega)
  refine ⟨by rw [e2]; exact hV.1, fun w hw => ?_⟩
  rw [e2] at hw
  have hm := hV.1
  have hv := hV.2 w hw
  rw [vm_wl h (by omega), h (88 + w) (by omega)]
  exact ⟨hv.1, hv.2.1, hv.2.2.1, fun i hi => by rw [vm_dgt h (by omega)]; exact hv.2.2.2 i hi⟩
theorem vm_hold {a a' : eRow} (h : vm a a') (hV : iV a) (l : Nat) : hold a' l = hold a l := by
  have e2 : a' 2 = a 2 := h 2 (by omega)
  have hm := hV.1
  unfold hold
  rw [e2]
  refine fb_ct_cong (fun w hw => ?_)
  unfold hlB
  rw [vm_wl h (by omega)]
  exact anyN_cong (fun i hi => by rw [vm_lt h (by omega)])
theorem wV_vm {S : wS} {a a' : eRow} (h : vm a a') (hV : iV a) (hw : wV S a) : wV S a' := by
  have e2 : a' 2 = a 2 := h 2 (by omega)
  have hm := hV.1
  obtain ⟨h1, h2, h3, h4⟩ := hw
  refine ⟨by rw [e2]; exact h1, fun w hw => ?_, fun w p hw hp => ?_, fun l hl => by rw [vm_hold h hV]; exact h4 l hl⟩
  · rw [e2] at hw
    rw [vm_wl h (by omega)]
    exact h2 w hw
  · rw [e2] at hw
    rw [vm_wl h (by omega)] at hp
    rw [vm_lt h (by omega)]
    exact h3 w p hw hp
/-! The class's window: a letter, a blocked cell, a word, a new grid. -/
theorem lv_v {a : eRow} {e v : Nat} (he : e < 36) : vm a (up a (52 + e) v) := fun i hi => up_ne (by omega)
theorem lv_wG {S : wS} {a : eRow} {e v : Nat} {x : Int} (hG : iG a) (hw : wG S a) (he : e < 36) (hx : x = (v : Int)) : wG (uI S 3 e x) (up a (52 + e) v) := by
  have hne : ∀ i, i < 52 ∨ 88 ≤ i → up a (52 + e) v i = a i := fun i hi => up_ne (by omega)
  have hs : ∀ k, sx (up a (52 + e) v) k = sx a k ∧ sy (up a (52 + e) v) k = sy a k ∧ sl (up a (52 + e) v) k = sl a k ∧ sd (up a (52 + e) v) k = sd a k := fun k => ⟨hne _ (by omega), hne _ (by omega), hne _ (by omega), hne _ (by omega)⟩
  have hc : ∀ k p, cel (up a (52 + e) v) k p = cel a k p := fun k p => by
    unfold cel
    rw [(hs k).1, (hs k).2.1, (hs k).2.2.2]
  obtain ⟨⟨h1, h2, h3⟩, h4⟩ := hw
  refine ⟨⟨by rw [hne 0 (by omega), hne 1 (by omega), hne 3 (by omega)]; exact h1, fun e2 he2 => ?_, fun k hk => ?_⟩, fun k hk p hp => ?_⟩
  · rw [hne (16 + e2) (by omega), hne (244 + e2) (by omega), hne (280 + e2) (by omega)]
    obtain ⟨q1, q2, q3, q4⟩ := h2 e2 he2
    refine ⟨q1, ?_, q3, q4⟩
    show eUp (S 3) e x e2 = _
    by_cases hee : e2 = e
    · rw [hee, eUp_at, up_at]; exact hx
    · rw [eUp_ne hee, up_ne (by omega)]; exact q2
  · rw [hne 3 (by omega)] at hk
    obtain ⟨q1, q2, q3, q4⟩ := hs k
    rw [q1, q2, q3, q4]
    exact h3 k hk
  · rw [hne 3 (by omega)] at hk
    rw [(hs k).2.2.1] at hp
    have hcl := cel_lt hG hk hp
    have ho : oth (up a (52 + e) v) k p = oth a k p := by
      unfold oth
      rw [(hs k).2.2.2, hc, hne _ (by split <;> omega)]
    have hpl : plc (up a (52 + e) v) k p = plc a k p := by
      unfold plc pin
      rw [ho, hc, (hs _).1, (hs _).2.1, (hs _).2.2.2]
    unfold opl
    rw [ho, hpl]
    exact h4 k hk p hp
set_option maxRecDepth 100000
theorem c_putLetter {S : wS} {c : Nat × Nat} {a : eRow} {x y : Int} {e v : Nat} (hA : wA S a) (hI : iA a) (hx : x = (e : Int)) (hy : y = (v : Int)) (he : e < 36) (hv : v = 0 ∨ (97 ≤ v ∧ v ≤ 122)) : ∃ S' : wS, wA S' (lvA a e v) ∧ ev m_W_putLetter 0 [some (eR 0), some (eI x), some (eI y)] [] (wC S, c) = some (.inl none, (wC S', c)) := by
  obtain ⟨hG, hV, hO, hT, hM⟩ := hI
  obtain ⟨g1, g2⟩ := lv_all (v := v) hG hV he hv
  obtain ⟨S1, S', q1, q2, q3⟩ := c_anew (S := uI S 3 e y) (c := c) (a := up a (52 + e) v) (lv_wG hG hA.1 he hy) (wV_vm (lv_v he) hV (wV_S (fun b hb => uI_ne (by omega)) hA.2.1)) g1 g2 (by
    rw [up_ne (by omega), up_ne (by omega), up_ne (by omega), up_ne (by omega)]
    exact hA.2.2.1.1)
  refine ⟨S', q1, ?_⟩
  refine xLd (N := 6) (n := 36) (i := x) (F := fun zq => ev m_W_putLetter 10 [some (eR 0), some (eI x), some (eI y)] [] (wC (uI S 3 zq y), c)) (k := e) rfl (wr_nat (by omega) (by omega)) (by omega) ?_
  refine xCallWV (N := 2) (M2 := m_W_putLetter) (pc2 := 11) (ls2 := [some (eR 0), some (eI x), some (eI y)]) (st2 := []) (y := m_W_beginAnew) (as := [some (eR 0)]) (w2 := (wC (uI S 3 e y), c)) rfl q2 ?_
  refine xCallWV (N := 2) (M2 := m_W_putLetter) (pc2 := 15) (ls2 := [some (eR 0), some (eI x), some (eI y)]) (st2 := []) (y := m_W_narrow) (as := [some (eR 0)]) (w2 := (wC S1, c)) rfl q3 ?_
  refine xSeg (N := 1) (r := some (.inl none, (wC S', c))) rfl ?_
  rfl
theorem iA_lv {a : eRow} {e v : Nat} (hI : iA a) (he : e < 36) (hv : v = 0 ∨ (97 ≤ v ∧ v ≤ 122)) : iA (lvA a e v) := by
  obtain ⟨g1, g2⟩ := lv_all (v := v) hI.1 hI.2.1 he hv
  exact iA_bg g1 g2
/-- a cell is blocked -/
def bkA (a : eRow) (e : Nat) : eRow := bgA (mkSl (up a (16 + e) 1))
theorem bk_v {a : eRow} {e : Nat} (he : e < 36) (h0 : a 0 < 7) (h1 : a 1 < 7) : vm a (mkSl (up a (16 + e) 1)) := fun i hi => by
  rw [mkSl_keep (by rw [up_ne (by omega)]; exact h0) (by rw [up_ne (by omega)]; exact h1) (by omega), up_ne (by omega)]
theorem bk_all {a : eRow} {e : Nat} (hG : iG a) (hV : iV a) (he : e < 36) : iG (mkSl (up a (16 + e) 1)) ∧ iV (mkSl (up a (16 + e) 1)) := by
  obtain ⟨⟨h1, h2, h3, h4, h5⟩, g2, g3⟩ := hG
  refine ⟨mkSl_iG (by rw [up_ne (by omega)]; omega) (by rw [up_ne (by omega)]; omega) (fun e2 he2 => ?_), vm_iV (bk_v he (by omega) (by omega)) hV⟩
  have h9 := g2 e2 he2
  rw [up_ne (show 52 + e2 ≠ 16 + e by omega)]
  refine ⟨?_, h9.2.1⟩
  by_cases hee : e2 = e
  · rw [hee, up_at]; exact Nat.le_refl 1
  · rw [up_ne (by omega)]; exact h9.1
theorem c_putBlock {S : wS} {c : Nat × Nat} {a : eRow} {x : Int} {e : Nat} (hA : wA S a) (hI : iA a) (hx : x = (e : Int)) (he : e < 36) : ∃ S' : wS, wA S' (bkA a e) ∧ ev m_W_putBlock 0 [some (eR 0), some (eI x)] [] (wC S, c) = some (.inl none, (wC S', c)) := by
  obtain ⟨hG, hV, hO, hT, hM⟩ := hI
  obtain ⟨b1, b2⟩ := bk_all hG hV he
  obtain ⟨h1, h2, h3, h4, h5⟩ := hG.1
  obtain ⟨S1, ⟨q1, q2⟩, q3⟩ := c_findSlots (S := uI S 2 e 1) (c := c) (a := up a (16 + e) 1) (by rw [up_ne (by omega)]; exact hA.1.1.1.1) (by rw [up_ne (by omega)]; exact hA.1.1.1.2.1) (by rw [up_ne (by omega)]; omega) (by rw [up_ne (by omega)]; omega) (fun e2 he2 => by
    obtain ⟨w1, w2, w3, w4⟩ := hA.1.1.2.1 e2 he2
    rw [up_ne (show 52 + e2 ≠ 16 + e by omega)]
    refine ⟨?_, w2⟩
    show eUp (S 2) e 1 e2 = _
    by_cases hee : e2 = e
    · rw [hee, eUp_at, up_at]; rfl
    · rw [eUp_ne hee, up_ne (by omega)]; exact w1) (fun e2 he2 => by
    have h9 := hG.2.1 e2 he2
    rw [up_ne (show 52 + e2 ≠ 16 + e by omega)]
    refine ⟨?_, h9.2.1⟩
    by_cases hee : e2 = e
    · rw [hee, up_at]; exact Nat.le_refl 1
    · rw [up_ne (by omega)]; exact h9.1)
  have hk : ∀ i, (5 ≤ i ∧ i ≤ 8) → mkSl (up a (16 + e) 1) i = a i := fun i hi => by
    rw [mkSl_keep (by rw [up_ne (by omega)]; omega) (by rw [up_ne (by omega)]; omega) (by omega), up_ne (by omega)]
  obtain ⟨S2, S', q4, q5, q6⟩ := c_anew (S := S1) (c := c) (a := mkSl (up a (16 + e) 1)) q1 (wV_vm (bk_v he (by omega) (by omega)) hV (wV_S (fun b hb => by rw [q2.1 b (by omega), uI_ne (by omega)]) hA.2.1)) b1 b2 (by
    rw [q2.1 0 (by omega), hk 5 (by omega), hk 6 (by omega), hk 7 (by omega), hk 8 (by omega)]
    exact hA.2.2.1.1)
  refine ⟨S', q4, ?_⟩
  refine xLd (N := 6) (n := 36) (i := x) (F := fun zq => ev m_W_putBlock 10 [some (eR 0), some (eI x)] [] (wC (uI S 2 zq 1), c)) (k := e) rfl (wr_nat (by omega) (by omega)) (by omega) ?_
  refine xCallWV (N := 3) (M2 := m_W_putBlock) (pc2 := 14) (ls2 := [some (eR 0), some (eI x)]) (st2 := []) (y := m_G_findSlots) (as := [some (eR 1)]) (w2 := (wC (uI S 2 e 1), c)) rfl q3 ?_
  refine xCallWV (N := 2) (M2 := m_W_putBlock) (pc2 := 18) (ls2 := [some (eR 0), some (eI x)]) (st2 := []) (y := m_W_beginAnew) (as := [some (eR 0)]) (w2 := (wC S1, c)) rfl q5 ?_
  refine xCallWV (N := 2) (M2 := m_W_putBlock) (pc2 := 22) (ls2 := [some (eR 0), some (eI x)]) (st2 := []) (y := m_W_narrow) (as := [some (eR 0)]) (w2 := (wC S2, c)) rfl q6 ?_
  refine xSeg (N := 1) (r := some (.inl none, (wC S', c))) rfl ?_
  rfl
theorem iA_bk {a : eRow} {e : Nat} (hI : iA a) (he : e < 36) : iA (bkA a e) := by
  obtain ⟨g1, g2⟩ := bk_all hI.1 hI.2.1 he
  exact iA_bg g1 g2
/-- a new grid -/
def stA (w h : Nat) : eRow := bgA (mkSl (zG w h))
theorem st_z {w h i : Nat} (hw : w < 7) (hh : h < 7) (hi : i ≠ 0 ∧ i ≠ 1 ∧ i ≠ 3 ∧ (i < 148 ∨ 316 ≤ i)) : mkSl (zG w h) i = 0 := by
  rw [mkSl_keep hw hh ⟨hi.2.2.1, hi.2.2.2⟩]
  unfold zG
  rw [if_neg hi.1, if_neg hi.2.1]
theorem st_all {w h : Nat} (hw : 2 ≤ w ∧ w ≤ 6) (hh : 2 ≤ h ∧ h ≤ 6) : iG (mkSl (zG w h)) ∧ iV (mkSl (zG w h)) := by
  refine ⟨mkSl_iG hw hh (fun e he => ?_), ?_⟩
  · rw [show zG w h (16 + e) = 0 by unfold zG; rw [if_neg (by omega), if_neg (by omega)], show zG w h (52 + e) = 0 by unfold zG; rw [if_neg (by omega), if_neg (by omega)]]
    exact ⟨by omega, Or.inl rfl⟩
  · have h2 : mkSl (zG w h) 2 = 0 := st_z (by omega) (by omega) (by omega)
    refine ⟨by omega, fun w2 hw2 => ?_⟩
    rw [h2] at hw2
    omega
theorem iA_st {w h : Nat} (hw : 2 ≤ w ∧ w ≤ 6) (hh : 2 ≤ h ∧ h ≤ 6) : iA (stA w h) := by
  obtain ⟨g1, g2⟩ := st_all hw hh
  exact iA_bg g1 g2
theorem c_wstart {S : wS} {c : Nat × Nat} {x y : Int} {W H : Nat} (hx : x = (W : Int)) (hy : y = (H : Int)) (hW : 2 ≤ W ∧ W ≤ 6) (hH : 2 ≤ H ∧ H ≤ 6) : ∃ S' : wS, wA S' (stA W H) ∧ ev m_W_start 0 [some (eR 0), some (eI x), some (eI y)] [] (wC S, c) = some (.inl none, (wC S', c)) := by
  obtain ⟨S1, ⟨q1, q2⟩, q3⟩ := c_gstart (S := S) (c := c) hx hy hW hH
  obtain ⟨g1, g2⟩ := st_all hW hH
  have hcl := c_clear (S := S1) (c := c)
  generalize hT : uS (uI S1 11 0 0) 14 (cF (fun _ => 0) (S1 14) 26) = T at hcl
  generalize hU : uI (uI (uI (uI T 0 4 0) 0 8 0) 0 9 0) 0 10 0 = U
  have hz : ∀ i, (i = 2 ∨ (5 ≤ i ∧ i ≤ 8)) → mkSl (zG W H) i = 0 := fun i hi => st_z (by omega) (by omega) (by omega)
  have hUb : ∀ b, b ≠ 0 → b ≠ 11 → b ≠ 14 → U b = S1 b := fun b b1 b2 b3 => by
    rw [← hU, uI_ne b1, uI_ne b1, uI_ne b1, uI_ne b1, ← hT, uS_ne b3, uI_ne b2]
  have hU0 : U 0 = eUp (eUp (eUp (eUp (S1 0) 4 0) 8 0) 9 0) 10 0 := by rw [← hU, ← hT]; rfl
  have hU11 : U 11 = eUp (S1 11) 0 0 := by rw [← hU, ← hT]; rfl
  have hU14 : U 14 = cF (fun _ => 0) (S1 14) 26 := by rw [← hU, ← hT]; rfl
  have hv : wV U (mkSl (zG W H)) := by
    have h2 : mkSl (zG W H) 2 = 0 := hz 2 (by omega)
    refine ⟨by rw [hU11, eUp_at, h2]; rfl, fun w hw => by rw [h2] at hw; omega, fun w p hw => by rw [h2] at hw; omega, fun l hl => ?_⟩
    rw [hU14, cF_lt hl]
    unfold hold
    rw [h2]
    rfl
  obtain ⟨S2, S', q4, q5, q6⟩ := c_anew (S := U) (c := c) (a := mkSl (zG W H)) (wG_S (fun b hb => hUb b (by omega) (by omega) (by omega)) q1) hv g1 g2 (by
    rw [hU0, hz 5 (by omega), hz 6 (by omega), hz 7 (by omega), hz 8 (by omega), eUp_ne (by omega), eUp_ne (by omega), eUp_ne (by omega), eUp_at, eUp_ne (by omega), eUp_ne (by omega), eUp_at, eUp_ne (by omega), eUp_at, eUp_at]
    exact ⟨rfl, rfl, rfl, rfl⟩)
  refine ⟨S', q4, ?_⟩
  refine xCallWV (N := 5) (M2 := m_W_start) (pc2 := 6) (ls2 := [some (eR 0), some (eI x), some (eI y)]) (st2 := []) (y := m_G_start) (as := [some (eR 1), some (eI x), some (eI y)]) (w2 := (wC S, c)) rfl q3 ?_
  refine xCallWV (N := 3) (M2 := m_W_start) (pc2 := 13) (ls2 := [some (eR 0), some (eI x), some (eI y)]) (st2 := []) (y := m_V_clear) (as := [some (eR 11)]) (w2 := (wC S1, c)) rfl hcl ?_
  refine xSeg (N := 12) (r := ev m_W_start 36 [some (eR 0), some (eI x), some (eI y)] [] (wC (uI (uI (uI (uI T 0 4 0) 0 8 0) 0 9 0) 0 10 0), c)) rfl ?_
  rw [hU]
  refine xCallWV (N := 2) (M2 := m_W_start) (pc2 := 37) (ls2 := [some (eR 0), some (eI x), some (eI y)]) (st2 := []) (y := m_W_beginAnew) (as := [some (eR 0)]) (w2 := (wC U, c)) rfl q5 ?_
  refine xCallWV (N := 2) (M2 := m_W_start) (pc2 := 41) (ls2 := [some (eR 0), some (eI x), some (eI y)]) (st2 := []) (y := m_W_narrow) (as := [some (eR 0)]) (w2 := (wC S2, c)) rfl q6 ?_
  refine xSeg (N := 1) (r := some (.inl none, (wC S', c))) rfl ?_
  rfl
