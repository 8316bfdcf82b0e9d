/-! The window is the row: words, candidates; the class narrows as the row says. -/
theorem sm_rf {a : eRow} : sm a a := fun _ _ => rfl
theorem sm_tr {a b c : eRow} (h : sm a b) (h2 : sm b c) : sm a c := fun i hi => (h2 i hi).trans (h i hi)
theorem up_sm {a : eRow} {i v : Nat} (h : ¬ (i < 4 ∨ (16 ≤ i ∧ i < 316))) : sm a (up a i v) := fun j hj => by
  unfold up
  rw [if_neg (fun e => h (by omega))]
def wV (S : wS) (a : eRow) : Prop := S 11 0 = (a 2 : Int) ∧ (∀ w, w < a 2 → S 12 w = (wl a w : Int)) ∧ (∀ w p, w < a 2 → p < wl a w → S 13 (w * 6 + p) = (lt a w p : Int)) ∧ (∀ l, l < 26 → S 14 l = (hold a l : Int))
/-- candidates and guesses, but the state -/
def wP (S : wS) (a : eRow) : Prop := (S 0 4 = (a 5 : Int) ∧ S 0 8 = (a 6 : Int) ∧ S 0 9 = (a 7 : Int) ∧ S 0 10 = (a 8 : Int)) ∧ (∀ k, k < a 3 → S 15 k = (op a k : Int)) ∧ (∀ l, l < a 5 → S 16 l = (a (340 + 2 * l) : Int) ∧ S 17 l = (a (340 + 2 * l + 1) : Int) ∧ ∀ k, k < a 3 → S 18 (l * 24 + k) = (a (388 + 24 * l + k) : Int))
def wA (S : wS) (a : eRow) : Prop := wG S a ∧ wV S a ∧ wP S a ∧ S 0 3 = (a 4 : Int)
theorem sm_hold {a a' : eRow} (h : sm a a') (hV : iV a) (l : Nat) : hold a' l = hold a l := by
  have e2 : a' 2 = a 2 := h 2 (by omega)
  have hm := hV.1
  unfold hold
  rw [e2]
  refine fb_ct_cong (fun w hw => ?_)
  unfold hlB
  rw [sm_wl h (by omega)]
  exact anyN_cong (fun i hi => by rw [sm_lt h (by omega)])
theorem wV_sm {S : wS} {a a' : eRow} (h : sm a a') (hV : iV a) (hw : wV S a) : wV S a' := by
  have e2 : a' 2 = a 2 := h 2 (by omega)
  have hm := hV.1
  obtain ⟨h1, h2, h3, h4⟩ := hw
  refine ⟨by rw [e2]; exact h1, fun w hw => ?_, fun w p hw hp => ?_, fun l hl => by rw [sm_hold h hV]; exact h4 l hl⟩
  · rw [e2] at hw
    rw [sm_wl h (by omega)]
    exact h2 w hw
  · rw [e2] at hw
    rw [sm_wl h (by omega)] at hp
    rw [sm_lt h (by omega)]
    exact h3 w p hw hp
theorem sm_plc {a a' : eRow} (h : sm a a') (hG : iG a) {k p : Nat} (hk : k < a 3) (hp : p < sl a k) : oth a' k p = oth a k p ∧ (oth a k p ≠ 0 → plc a' k p = plc a k p) := by
  have hn := hG.1.2.2.2.2
  have hc := cel_lt hG hk hp
  have ho := sm_oth h (k := k) (p := p) (by omega) hc
  refine ⟨ho, fun h0 => ?_⟩
  obtain ⟨c1, _⟩ := cross hG hk hp h0
  unfold plc
  rw [ho, sm_cel h (by omega), sm_pin h (by omega)]
theorem wG_sm {S : wS} {a a' : eRow} (h : sm a a') (hG : iG a) (hw : wG S a) : wG S a' := by
  have e0 : a' 0 = a 0 := h 0 (by omega)
  have e1 : a' 1 = a 1 := h 1 (by omega)
  have e3 : a' 3 = a 3 := h 3 (by omega)
  have hn := hG.1.2.2.2.2
  obtain ⟨⟨h1, h2, h3⟩, h4⟩ := hw
  refine ⟨⟨by rw [e0, e1, e3]; exact h1, fun e he => ?_, fun k hk => ?_⟩, fun k hk p hp => ?_⟩
  · rw [h (16 + e) (by omega), h (52 + e) (by omega), h (244 + e) (by omega), h (280 + e) (by omega)]
    exact h2 e he
  · rw [e3] at hk
    obtain ⟨q1, q2, q3, q4⟩ := sm_sl h (k := k) (by omega)
    rw [q1, q2, q3, q4]
    exact h3 k hk
  · rw [e3] at hk
    rw [(sm_sl h (k := k) (by omega)).2.2.1] at hp
    obtain ⟨q1, q2⟩ := sm_plc h hG hk hp
    have hx := h4 k hk p hp
    unfold opl at hx ⊢
    rw [q1]
    by_cases h0 : oth a k p = 0
    · rw [if_pos h0] at hx ⊢
      exact hx
    · rw [if_neg h0] at hx ⊢
      rw [q2 h0]
      exact hx
/-- the same grid and words in the window -/
theorem wG_S {S S' : wS} {a : eRow} (h : ∀ b, (1 ≤ b ∧ b ≤ 10) → S' b = S b) (hw : wG S a) : wG S' a := by
  unfold wG wG1 wX at hw ⊢
  rw [h 1 (by omega), h 2 (by omega), h 3 (by omega), h 4 (by omega), h 5 (by omega), h 6 (by omega), h 7 (by omega), h 8 (by omega), h 9 (by omega), h 10 (by omega)]
  exact hw
theorem wV_S {S S' : wS} {a : eRow} (h : ∀ b, (11 ≤ b ∧ b ≤ 14) → S' b = S b) (hw : wV S a) : wV S' a := by
  unfold wV at hw ⊢
  rw [h 11 (by omega), h 12 (by omega), h 13 (by omega), h 14 (by omega)]
  exact hw
theorem nB_of {S : wS} {a : eRow} (hw : wG S a) (hv : wV S a) (hG : iG a) (hV : iV a) : nB S (a 3) (a 2) (sl a) (wl a) (oth a) (plc a) (lt a) := by
  have hn := hG.1.2.2.2.2
  refine ⟨hw.1.1.2.2, hn, fun k hk => ⟨(hw.1.2.2 k hk).2.1, (sl_at hG hk).2.2.1⟩, fun k p hk hp => ?_, fun w p hw2 hp => ⟨hv.2.2.1 w p hw2 hp, lt_26 hV hw2 hp⟩⟩
  have hx := (hw.2 k hk p hp).2
  unfold opl at hx
  by_cases h0 : oth a k p = 0
  · rw [if_pos h0] at hx
    exact Or.inl ⟨h0, hx⟩
  · rw [if_neg h0] at hx
    obtain ⟨c1, c2, c3, c4⟩ := cross hG hk hp h0
    exact Or.inr ⟨h0, by omega, c3, hx⟩
theorem nwA_sm {a : eRow} : sm a (nwA a) := fun i hi => by
  unfold nwA up
  rw [if_neg (by omega)]
  exact setO_sm i hi
theorem nwA_hi {a : eRow} {i : Nat} (h : i ≠ 4) (h2 : i < 316 ∨ 316 + a 3 ≤ i) : nwA a i = a i := by
  unfold nwA up setO
  rw [if_neg h, if_neg (by omega)]
theorem nwA_op {a : eRow} {k : Nat} (hk : k < a 3) : op (nwA a) k = nwO a k := by
  unfold nwA
  rw [← setO_op (a := a) (r := nwO a) hk]
  unfold op up
  rw [if_neg (by omega)]
theorem nwA_4 {a : eRow} : nwA a 4 = mdN (a 3) (nwO a) := by
  unfold nwA up
  rw [if_pos rfl]
theorem c_nw {S : wS} {c : Nat × Nat} {a : eRow} (hw : wG S a) (hv : wV S a) (hp : wP S a) (hG : iG a) (hV : iV a) (hO : iO a) : ∃ S' : wS, wA S' (nwA a) ∧ ev m_W_narrow 0 [some (eR 0)] [] (wC S, c) = some (.inl none, (wC S', c)) := by
  have hn := hG.1.2.2.2.2
  have e3 : nwA a 3 = a 3 := nwA_sm 3 (by omega)
  have e5 : nwA a 5 = a 5 := nwA_hi (by omega) (by omega)
  obtain ⟨F, G, h1, h2⟩ := c_narrow (c := c) (nB_of hw hv hG hV) hp.2.1 (iO_mA hO)
  refine ⟨_, ?_, h2⟩
  generalize hT : uI (uS (uS S 15 F) 19 G) 0 3 ((mdN (a 3) (nr (a 3) (sl a) (oth a) (plc a) (lt a) 721 (op a)) : Nat) : Int) = T
  have hTb : ∀ b, b ≠ 0 → b ≠ 15 → b ≠ 19 → T b = S b := fun b b1 b2 b3 => by rw [← hT, uI_ne b1, uS_ne b3, uS_ne b2]
  have hT15 : T 15 = F := by rw [← hT]; rfl
  have hT0 : T 0 = eUp (S 0) 3 ((mdN (a 3) (nr (a 3) (sl a) (oth a) (plc a) (lt a) 721 (op a)) : Nat) : Int) := by rw [← hT]; rfl
  refine ⟨wG_sm nwA_sm hG (wG_S (fun b hb => hTb b (by omega) (by omega) (by omega)) hw), wV_sm nwA_sm hV (wV_S (fun b hb => hTb b (by omega) (by omega) (by omega)) hv), ⟨?_, fun k hk => ?_, fun l hl => ?_⟩, ?_⟩
  · rw [hT0, eUp_ne (by omega), eUp_ne (by omega), eUp_ne (by omega), eUp_ne (by omega), e5, nwA_hi (i := 6) (by omega) (by omega), nwA_hi (i := 7) (by omega) (by omega), nwA_hi (i := 8) (by omega) (by omega)]
    exact hp.1
  · rw [e3] at hk
    rw [hT15, nwA_op hk]
    exact h1 k hk
  · rw [e5] at hl
    rw [e3, hTb 16 (by omega) (by omega) (by omega), hTb 17 (by omega) (by omega) (by omega), hTb 18 (by omega) (by omega) (by omega), nwA_hi (i := 340 + 2 * l) (by omega) (by omega), nwA_hi (i := 340 + 2 * l + 1) (by omega) (by omega)]
    obtain ⟨q1, q2, q3⟩ := hp.2.2 l hl
    refine ⟨q1, q2, fun k hk => ?_⟩
    rw [nwA_hi (i := 388 + 24 * l + k) (by omega) (by omega)]
    exact q3 k hk
  · rw [hT0, eUp_at, nwA_4]
    rfl
