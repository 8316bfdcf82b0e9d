/-! The class's window as a row: begin anew, guesses, letters. -/
theorem fs_cel {a : eRow} {k p : Nat} (hd : sd a k ≤ 1) : sy a k * 6 + sx a k + p * strd (sd a k) = cel a k p := by
  unfold strd
  rcases Nat.lt_or_ge (sd a k) 1 with h | h
  · rw [if_pos (by omega), cel_0 (by omega)]; omega
  · rw [if_neg (by omega), cel_1 (by omega)]; omega
theorem c_bgn {S : wS} {c : Nat × Nat} {a : eRow} (hw : wG S a) (hv : wV S a) (hG : iG a) (hV : iV a) (h0 : S 0 4 = (a 5 : Int) ∧ S 0 8 = (a 6 : Int) ∧ S 0 9 = (a 7 : Int) ∧ S 0 10 = (a 8 : Int)) : ∃ S1 : wS, (wG S1 (ba1 a) ∧ wV S1 (ba1 a) ∧ wP S1 (ba1 a)) ∧ ev m_W_beginAnew 0 [some (eR 0)] [] (wC S, c) = some (.inl none, (wC S1, c)) := by
  have hn := hG.1.2.2.2.2
  have e3 : ba1 a 3 = a 3 := ba1_sm 3 (by omega)
  refine ⟨_, ?_, c_beginAnew (c := c) (n := a 3) (m := a 2) (sz := sl a) (wl := wl a) (fs := fun k => sy a k * 6 + sx a k) (vt := sd a) (G := Gv a) (f := lt a) hw.1.1.2.2 hn hv.1 hV.1 (fun k hk => ⟨(hw.1.2.2 k hk).2.1, (sl_at hG hk).2.2.1⟩) (fun k hk => ⟨(hw.1.2.2 k hk).2.2, (sl_at hG hk).1⟩) (fun k hk => (hw.1.2.2 k hk).1) (fun k p hk hp => by
    have hc := cel_lt hG hk hp
    have hg := (hG.2.1 _ hc).2.1
    rw [fs_cel (sl_at hG hk).1]
    exact ⟨hc, (hw.1.2.1 _ hc).2.1, by unfold Gv; omega⟩) (fun w hw2 => ⟨hv.2.1 w hw2, (hV.2 w hw2).2.1⟩) (fun w p hw2 hp => ⟨hv.2.2.1 w p hw2 hp, lt_26 hV hw2 hp⟩)⟩
  generalize hT : uS (uI (uI S 0 10 (S 0 10 + S 0 4)) 0 4 0) 15 (cF (fun k => mkM (ftB (sl a) (wl a) (Gv a) (lt a) k) (a 2)) (S 15) (a 3)) = T
  have hTb : ∀ b, b ≠ 0 → b ≠ 15 → T b = S b := fun b b1 b2 => by rw [← hT, uS_ne b2, uI_ne b1, uI_ne b1]
  have hT0 : T 0 = eUp (eUp (S 0) 10 (S 0 10 + S 0 4)) 4 0 := by rw [← hT]; rfl
  have hT15 : T 15 = cF (fun k => mkM (ftB (sl a) (wl a) (Gv a) (lt a) k) (a 2)) (S 15) (a 3) := by rw [← hT]; rfl
  refine ⟨wG_sm ba1_sm hG (wG_S (fun b hb => hTb b (by omega) (by omega)) hw), wV_sm ba1_sm hV (wV_S (fun b hb => hTb b (by omega) (by omega)) hv), ⟨?_, fun k hk => ?_, fun l hl => by rw [ba1_5] at hl; omega⟩⟩
  · rw [hT0, eUp_at, eUp_ne (by omega), eUp_ne (by omega), eUp_ne (by omega), eUp_ne (by omega), eUp_ne (by omega), eUp_at, ba1_5]
    unfold ba1 setO
    rw [up_ne (by omega), up_ne (by omega), up_ne (by omega), up_ne (by omega), up_ne (by omega), up_at, if_neg (by omega), if_neg (by omega)]
    exact ⟨rfl, h0.2.1, h0.2.2.1, by omega⟩
  · rw [e3] at hk
    rw [hT15, cF_lt hk, ba1_op hk]
    rfl
/-- anew and narrowed -/
theorem c_anew {S : wS} {c : Nat × Nat} {a : eRow} (hw : wG S a) (hv : wV S a) (hG : iG a) (hV : iV a) (h0 : S 0 4 = (a 5 : Int) ∧ S 0 8 = (a 6 : Int) ∧ S 0 9 = (a 7 : Int) ∧ S 0 10 = (a 8 : Int)) : ∃ S1 S' : wS, wA S' (bgA a) ∧ ev m_W_beginAnew 0 [some (eR 0)] [] (wC S, c) = some (.inl none, (wC S1, c)) ∧ ev m_W_narrow 0 [some (eR 0)] [] (wC S1, c) = some (.inl none, (wC S', c)) := by
  obtain ⟨S1, ⟨q1, q2, q3⟩, q4⟩ := c_bgn (c := c) hw hv hG hV h0
  obtain ⟨S', q5, q6⟩ := c_nw (c := c) q1 q2 q3 (sm_iG ba1_sm hG) (sm_iV ba1_sm hV) (ba1_O hG hV)
  exact ⟨S1, S', q5, q4, q6⟩
theorem c_push {S : wS} {c : Nat × Nat} {a : eRow} {x y : Int} {k w : Nat} (hw : wG S a) (hv : wV S a) (hp : wP S a) (hG : iG a) (hV : iV a) (h5 : a 5 < 24) (hx : x = (k : Int)) (hy : y = (w : Int)) (hk : k < a 3) (hw30 : w < 30) : ∃ S1 : wS, (wG S1 (psA a k w) ∧ wV S1 (psA a k w) ∧ wP S1 (psA a k w)) ∧ ev m_W_pushGuess 0 [some (eR 0), some (eI x), some (eI y)] [] (wC S, c) = some (.inl none, (wC S1, c)) := by
  have hn := hG.1.2.2.2.2
  have hsm := psA_sm (a := a) (k := k) (w := w)
  have e3 : psA a k w 3 = a 3 := hsm 3 (by omega)
  refine ⟨_, ?_, c_pushGuess (c := c) (d := a 5) hp.1.1 h5 hx hy (by omega) (by omega)⟩
  generalize hT : pgS S (a 5) k x y ((2 ^ w : Nat) : Int) = T
  have hTb : ∀ b, (1 ≤ b ∧ b ≤ 14) → T b = S b := fun b hb => by
    rw [← hT]
    unfold pgS
    rw [uI_ne (by omega), uI_ne (by omega), uI_ne (by omega), uI_ne (by omega), uI_ne (by omega), uS_ne (by omega)]
  have hT0 : T 0 = eUp (eUp (S 0) 4 (S 0 4 + 1)) 8 (S 0 8 + 1) := by rw [← hT]; rfl
  have hT15 : T 15 = eUp (S 15) k ((2 ^ w : Nat) : Int) := by rw [← hT]; rfl
  have hT16 : T 16 = eUp (S 16) (a 5) x := by rw [← hT]; rfl
  have hT17 : T 17 = eUp (S 17) (a 5) y := by rw [← hT]; rfl
  have hT18 : T 18 = eCpy (S 15) (S 18) 0 (a 5 * 24) 24 := by rw [← hT]; rfl
  refine ⟨wG_sm hsm hG (wG_S (fun b hb => hTb b (by omega)) hw), wV_sm hsm hV (wV_S (fun b hb => hTb b (by omega)) hv), ⟨?_, fun j hj => ?_, fun l hl => ?_⟩⟩
  · rw [hT0, eUp_ne (by omega), eUp_at, eUp_at, eUp_ne (by omega), eUp_ne (by omega), eUp_ne (by omega), eUp_ne (by omega), psA_5, psA_6, psA_lo (i := 7) (by omega) (by omega) (by omega), psA_lo (i := 8) (by omega) (by omega) (by omega)]
    obtain ⟨q1, q2, q3, q4⟩ := hp.1
    exact ⟨by omega, by omega, q3, q4⟩
  · rw [e3] at hj
    rw [hT15, psA_op (by omega) h5]
    by_cases hjk : j = k
    · rw [hjk, eUp_at, if_pos rfl]
    · rw [eUp_ne hjk, if_neg hjk]
      exact hp.2.1 j hj
  · rw [psA_5] at hl
    rw [e3]
    have hg := psA_g (a := a) (k := k) (w := w) (l := l) (by omega) (by omega) h5
    have hb := fun j (hj : j < a 3) => psA_bf (a := a) (k := k) (w := w) (l := l) (j := j) (by omega) (by omega) h5 hj hn
    unfold gs gw at hg
    rw [hT16, hT17, hT18, hg.1, hg.2]
    by_cases hl5 : l = a 5
    · rw [hl5, eUp_at, eUp_at, if_pos rfl, if_pos rfl]
      refine ⟨hx, hy, fun j hj => ?_⟩
      have hbj := hb j hj
      unfold bf at hbj
      rw [hl5, if_pos rfl] at hbj
      rw [hbj]
      unfold eCpy
      rw [if_pos (by omega), show 0 + (a 5 * 24 + j - a 5 * 24) = j by omega]
      exact hp.2.1 j hj
    · rw [eUp_ne hl5, eUp_ne hl5, if_neg hl5, if_neg hl5]
      obtain ⟨q1, q2, q3⟩ := hp.2.2 l (by omega)
      refine ⟨q1, q2, fun j hj => ?_⟩
      have hbj := hb j hj
      unfold bf at hbj
      rw [if_neg hl5] at hbj
      rw [hbj]
      unfold eCpy
      rw [if_neg (by omega)]
      exact q3 j hj
theorem c_pop {S : wS} {c : Nat × Nat} {a : eRow} (hw : wG S a) (hv : wV S a) (hp : wP S a) (hG : iG a) (hV : iV a) (hT : iT a) (h5 : 0 < a 5) (h24 : a 5 ≤ 24) : ∃ S1 : wS, (wG S1 (ppA a) ∧ wV S1 (ppA a) ∧ wP S1 (ppA a)) ∧ ev m_W_popGuess 0 [some (eR 0)] [] (wC S, c) = some (.inl none, (wC S1, c)) := by
  have hn := hG.1.2.2.2.2
  have hm30 := hV.1
  have hsm := ppA_sm (a := a)
  have e3 : ppA a 3 = a 3 := hsm 3 (by omega)
  obtain ⟨t1, t2, t3, t4, t5, t6⟩ := hT (a 5 - 1) (by omega)
  obtain ⟨l1, l2, l3⟩ := hp.2.2 (a 5 - 1) (by omega)
  refine ⟨_, ?_, c_popGuess (c := c) (d := a 5 - 1) (k := gs a (a 5 - 1)) (w := gw a (a 5 - 1)) (mk := bf a (a 5 - 1) (gs a (a 5 - 1))) (by rw [hp.1.1]; omega) (by omega) l1 l2 (by omega) (by omega) (l3 _ t1) (t4 _ t1).1⟩
  generalize hTT : qgS S (a 5 - 1) (gs a (a 5 - 1)) ((nDiff (bf a (a 5 - 1) (gs a (a 5 - 1))) (2 ^ gw a (a 5 - 1)) : Nat) : Int) = T
  have hTb : ∀ b, b ≠ 0 → b ≠ 15 → T b = S b := fun b b1 b2 => by
    rw [← hTT]
    unfold qgS
    rw [uI_ne b2, uS_ne b2, uI_ne b1, uI_ne b1]
  have hT0 : T 0 = eUp (eUp (S 0) 4 (S 0 4 - 1)) 9 (S 0 9 + 1) := by rw [← hTT]; rfl
  have hT15 : T 15 = eUp (eCpy (S 18) (S 15) ((a 5 - 1) * 24) 0 24) (gs a (a 5 - 1)) ((nDiff (bf a (a 5 - 1) (gs a (a 5 - 1))) (2 ^ gw a (a 5 - 1)) : Nat) : Int) := by rw [← hTT]; rfl
  refine ⟨wG_sm hsm hG (wG_S (fun b hb => hTb b (by omega) (by omega)) hw), wV_sm hsm hV (wV_S (fun b hb => hTb b (by omega) (by omega)) hv), ⟨?_, fun j hj => ?_, fun l hl => ?_⟩⟩
  · rw [hT0, eUp_ne (by omega), eUp_at, eUp_ne (by omega), eUp_ne (by omega), eUp_at, eUp_ne (by omega), eUp_ne (by omega), ppA_5, ppA_7, ppA_lo (i := 6) (by omega) (by omega) (by omega), ppA_lo (i := 8) (by omega) (by omega) (by omega)]
    obtain ⟨q1, q2, q3, q4⟩ := hp.1
    exact ⟨by omega, q2, by omega, q4⟩
  · rw [e3] at hj
    rw [hT15, ppA_op hj hn]
    by_cases hjk : j = gs a (a 5 - 1)
    · rw [if_pos hjk, hjk, eUp_at]
    · rw [eUp_ne hjk, if_neg hjk]
      unfold eCpy
      rw [if_pos (by omega), Nat.sub_zero]
      exact l3 j hj
  · rw [ppA_5] at hl
    rw [e3, hTb 16 (by omega) (by omega), hTb 17 (by omega) (by omega), hTb 18 (by omega) (by omega), ppA_hi (i := 340 + 2 * l) (by omega) t1, ppA_hi (i := 340 + 2 * l + 1) (by omega) t1]
    obtain ⟨q1, q2, q3⟩ := hp.2.2 l (by omega)
    refine ⟨q1, q2, fun j hj => ?_⟩
    rw [ppA_hi (i := 388 + 24 * l + j) (by omega) t1]
    exact q3 j hj
theorem iT_24 {a : eRow} (hn : a 3 ≤ 24) (hT : iT a) : a 5 ≤ 24 := by
  have h := fb_holes (a 3) (a 5) (gs a) (fun i hi => (hT i hi).1) (fun i j hij hj => fun e => by
    have q7 := (hT i (by omega)).2.2.2.2.2 j hij hj
    have q8 := (hT j hj).2.2.1
    rw [← e] at q8
    omega)
  omega
set_option maxRecDepth 100000
theorem c_putGuess {S : wS} {c : Nat × Nat} {a : eRow} {x y : Int} {k w : Nat} (hA : wA S a) (hI : iA a) (hx : x = (k : Int)) (hy : y = (w : Int)) (hk : k < a 3) (h1 : 1 < pc 30 (op a k)) (hb : (op a k).testBit w = true) : ∃ S' : wS, wA S' (gsA a k w) ∧ ev m_W_putGuess 0 [some (eR 0), some (eI x), some (eI y)] [] (wC S, c) = some (.inl none, (wC S', c)) := by
  obtain ⟨hG, hV, hO, hT, hM⟩ := hI
  have hn := hG.1.2.2.2.2
  have hm30 := hV.1
  have h5 := iT_room hn hT hk h1
  have hw2 := (hO k hk).2 w hb
  obtain ⟨p1, p2, p3, p4⟩ := ps_all hG hV hO hT hk h1 hb
  obtain ⟨S1, ⟨q1, q2, q3⟩, q4⟩ := c_push (c := c) hA.1 hA.2.1 hA.2.2.1 hG hV (by omega) hx hy hk (by omega)
  obtain ⟨S', q5, q6⟩ := c_nw (c := c) q1 q2 q3 p1 p2 p3
  refine ⟨S', q5, ?_⟩
  refine xCallWV (N := 4) (M2 := m_W_putGuess) (pc2 := 3) (ls2 := [some (eR 0), some (eI x), some (eI y)]) (st2 := []) (y := m_W_pushGuess) (as := [some (eR 0), some (eI x), some (eI y)]) (w2 := (wC S, c)) rfl q4 ?_
  refine xCallWV (N := 2) (M2 := m_W_putGuess) (pc2 := 7) (ls2 := [some (eR 0), some (eI x), some (eI y)]) (st2 := []) (y := m_W_narrow) (as := [some (eR 0)]) (w2 := (wC S1, c)) rfl q6 ?_
  refine xSeg (N := 1) (r := some (.inl none, (wC S', c))) rfl ?_
  rfl
theorem c_dropGuess {S : wS} {c : Nat × Nat} {a : eRow} (hA : wA S a) (hI : iA a) (h5 : 0 < a 5) : ∃ S' : wS, wA S' (tbA a) ∧ ev m_W_dropGuess 0 [some (eR 0)] [] (wC S, c) = some (.inl none, (wC S', c)) := by
  obtain ⟨hG, hV, hO, hT, hM⟩ := hI
  have hn := hG.1.2.2.2.2
  obtain ⟨p1, p2, p3, p4⟩ := pp_all hG hV hT h5
  obtain ⟨S1, ⟨q1, q2, q3⟩, q4⟩ := c_pop (c := c) hA.1 hA.2.1 hA.2.2.1 hG hV hT h5 (iT_24 hn hT)
  obtain ⟨S', q5, q6⟩ := c_nw (c := c) q1 q2 q3 p1 p2 p3
  refine ⟨S', q5, ?_⟩
  refine xCallWV (N := 2) (M2 := m_W_dropGuess) (pc2 := 1) (ls2 := [some (eR 0)]) (st2 := []) (y := m_W_popGuess) (as := [some (eR 0)]) (w2 := (wC S, c)) rfl q4 ?_
  refine xCallWV (N := 2) (M2 := m_W_dropGuess) (pc2 := 5) (ls2 := [some (eR 0)]) (st2 := []) (y := m_W_narrow) (as := [some (eR 0)]) (w2 := (wC S1, c)) rfl q6 ?_
  refine xSeg (N := 1) (r := some (.inl none, (wC S', c))) rfl ?_
  rfl
theorem iA_gs {a : eRow} (hI : iA a) {k w : Nat} (hk : k < a 3) (h1 : 1 < pc 30 (op a k)) (hb : (op a k).testBit w = true) : iA (gsA a k w) := by
  obtain ⟨hG, hV, hO, hT, hM⟩ := hI
  obtain ⟨p1, p2, p3, p4⟩ := ps_all hG hV hO hT hk h1 hb
  exact iA_nw p1 p2 p3 p4
theorem iA_tb {a : eRow} (hI : iA a) (h5 : 0 < a 5) : iA (tbA a) := by
  obtain ⟨hG, hV, hO, hT, hM⟩ := hI
  obtain ⟨p1, p2, p3, p4⟩ := pp_all hG hV hT h5
  exact iA_nw p1 p2 p3 p4
/-- a letter is given -/
def lvA (a : eRow) (e v : Nat) : eRow := bgA (up a (52 + e) v)
theorem lv_all {a : eRow} {e v : Nat} (hG : iG a) (hV : iV a) (he : e < 36) (hv : v = 0 ∨ (97 ≤ v ∧ v ≤ 122)) : iG (up a (52 + e) v) ∧ iV (up a (52 + e) v) := by
  constructor
  · obtain ⟨g1, g2, g3, g4, g5⟩ := hG
    have hne : ∀ i, i < 52 ∨ 88 ≤ i → up a (52 + e) v i = a i := fun i hi => up_ne (by omega)
    have hs : ∀ k, sx (up a (52 + e) v) k = sx a k ∧ sy (up a (52 + e) v) k = sy a k ∧ sl (up a (52 + e) v) k = sl a k ∧ sd (up a (52 + e) v) k = sd a k := fun k => ⟨hne _ (by omega), hne _ (by omega), hne _ (by omega), hne _ (by omega)⟩
    have hc : ∀ k p, cel (up a (52 + e) v) k p = cel a k p := fun k p => by
      unfold cel
      rw [(hs k).1, (hs k).2.1, (hs k).2.2.2]
    refine ⟨by rw [hne 0 (by omega), hne 1 (by omega), hne 3 (by omega)]; exact g1, fun e2 he2 => ?_, fun k hk => ?_, fun e2 he2 => ?_, fun k p hk hp => ?_⟩
    · rw [hne (16 + e2) (by omega), hne (244 + e2) (by omega), hne (280 + e2) (by omega), hne 3 (by omega)]
      have h9 := g2 e2 he2
      refine ⟨h9.1, ?_, h9.2.2⟩
      by_cases hee : e2 = e
      · rw [hee, up_at]; exact hv
      · rw [up_ne (by omega)]; exact h9.2.1
    · rw [hne 3 (by omega)] at hk
      obtain ⟨q1, q2, q3, q4⟩ := hs k
      rw [q1, q2, q3, q4]
      exact g3 k hk
    · rw [hne (244 + e2) (by omega), hne (280 + e2) (by omega), (hs _).1, (hs _).2.1, (hs _).2.2.1, (hs _).2.2.2, (hs _).1, (hs _).2.1, (hs _).2.2.1, (hs _).2.2.2]
      exact g4 e2 he2
    · rw [hne 3 (by omega)] at hk
      rw [(hs k).2.2.1] at hp
      have hcl := cel_lt (a := a) ⟨g1, g2, g3, g4, g5⟩ hk hp
      rw [(hs k).2.2.2, hc, hne _ (by split <;> omega)]
      exact g5 k p hk hp
  · have hne : ∀ i, i < 52 ∨ 88 ≤ i → up a (52 + e) v i = a i := fun i hi => up_ne (by omega)
    refine ⟨by rw [hne 2 (by omega)]; exact hV.1, fun w hw => ?_⟩
    rw [hne 2 (by omega)] at hw
    have h9 := hV.2 w hw
    have e1 : wl (up a (52 + e) v) w = wl a w := hne _ (by omega)
    refine ⟨by rw [e1]; exact h9.1, by rw [e1]; exact h9.2.1, by rw [hne _ (by omega), e1]; exact h9.2.2.1, fun i hi => ?_⟩
    rw [e1] at hi
    unfold dgt
    rw [e1, hne _ (by omega)]
    exact h9.2.2.2 i hi
