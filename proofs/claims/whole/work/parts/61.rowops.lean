/-! Rows: begin anew, a guess, a guess taken back; what holds of them. -/
def gs (a : eRow) (l : Nat) : Nat := a (340 + 2 * l)
def gw (a : eRow) (l : Nat) : Nat := a (340 + 2 * l + 1)
def bf (a : eRow) (l k : Nat) : Nat := a (388 + 24 * l + k)
/-- the guesses of a row -/
def iT (a : eRow) : Prop := ∀ l, l < a 5 → gs a l < a 3 ∧ gw a l < a 2 ∧ 1 < pc 30 (bf a l (gs a l)) ∧ mA a (bf a l) ∧ pc 30 (op a (gs a l)) ≤ 1 ∧ ∀ l', l < l' → l' < a 5 → pc 30 (bf a l' (gs a l)) ≤ 1
def iM (a : eRow) : Prop := a 4 < 4 ∧ (a 4 = 3 → a 5 = 0) ∧ (a 4 ≠ 3 → a 4 = mdN (a 3) (op a))
def iA (a : eRow) : Prop := iG a ∧ iV a ∧ iO a ∧ iT a ∧ iM a
def Gv (a : eRow) (k p : Nat) : Nat := a (52 + cel a k p)
theorem up_at {a : eRow} {i v : Nat} : up a i v i = v := if_pos rfl
theorem up_ne {a : eRow} {i v j : Nat} (h : j ≠ i) : up a i v j = a j := if_neg h
def fitA (a : eRow) (k : Nat) : Nat := mkM (ftB (sl a) (wl a) (Gv a) (lt a) k) (a 2)
def ba1 (a : eRow) : eRow := up (up (setO a (fitA a)) 8 (a 8 + a 5)) 5 0
def bgA (a : eRow) : eRow := nwA (ba1 a)
theorem ba1_sm {a : eRow} : sm a (ba1 a) := sm_tr (sm_tr setO_sm (up_sm (by omega))) (up_sm (by omega))
theorem up_op {a : eRow} {i v k : Nat} (h : i ≠ 316 + k) : op (up a i v) k = op a k := by
  unfold op up
  rw [if_neg (fun e => h e.symm)]
theorem ba1_op {a : eRow} {k : Nat} (hk : k < a 3) : op (ba1 a) k = fitA a k := by
  unfold ba1
  rw [up_op (by omega), up_op (by omega), setO_op hk]
theorem ba1_5 {a : eRow} : ba1 a 5 = 0 := up_at
theorem sm_mA {a a' : eRow} {o : Nat → Nat} (h : sm a a') (hG : iG a) (hV : iV a) (hm : mA a o) : mA a' o := by
  have e3 : a' 3 = a 3 := h 3 (by omega)
  have e2 : a' 2 = a 2 := h 2 (by omega)
  have hn := hG.1.2.2.2.2
  have hm30 := hV.1
  intro k hk
  rw [e3] at hk
  refine ⟨(hm k hk).1, fun w hw => ?_⟩
  have h9 := (hm k hk).2 w hw
  rw [e2, sm_wl h (by omega), (sm_sl h (by omega)).2.2.1]
  exact h9
theorem mA_cong {a : eRow} {o o' : Nat → Nat} (h : ∀ k, k < a 3 → o' k = o k) (hm : mA a o) : mA a o' := fun k hk => by
  rw [h k hk]
  exact hm k hk
theorem iO_of {a : eRow} (h : mA a (op a)) : iO a := h
theorem fitA_m {a : eRow} (hV : iV a) : mA a (fitA a) := fun k hk => ⟨mkM_lt30 hV.1, fun w hw => by
  unfold fitA at hw
  rw [mkM_tb] at hw
  simp only [Bool.and_eq_true, decide_eq_true_eq] at hw
  refine ⟨hw.1, ?_⟩
  have h2 := hw.2
  unfold ftB at h2
  simp only [Bool.and_eq_true, decide_eq_true_eq] at h2
  exact h2.1⟩
theorem ba1_O {a : eRow} (hG : iG a) (hV : iV a) : iO (ba1 a) := by
  have e3 : ba1 a 3 = a 3 := ba1_sm 3 (by omega)
  exact mA_cong (fun k hk => ba1_op (by rw [e3] at hk; exact hk)) (sm_mA ba1_sm hG hV (fitA_m hV))
theorem nwO_sub {a : eRow} (hO : iO a) {k : Nat} (hk : k < a 3) : nwO a k < 1073741824 ∧ ∀ w, (nwO a k).testBit w = true → (op a k).testBit w = true := nr_sub (fun k hk => (hO k hk).1) k hk
theorem nwA_O {a : eRow} (hG : iG a) (hV : iV a) (hO : iO a) : iO (nwA a) := by
  have e3 : nwA a 3 = a 3 := nwA_sm 3 (by omega)
  exact mA_cong (fun k hk => nwA_op (by rw [e3] at hk; exact hk)) (sm_mA nwA_sm hG hV (mB_sub (iO_mA hO) (fun k hk => nwO_sub hO hk)))
theorem fnd_m1 {p : Nat → Bool} {d k : Nat} (h : fnd p d k ≠ -1) : 0 ≤ fnd p d k := by have := fnd_b (p := p) (d := d) (k := k); omega
theorem mdN_lt (n : Nat) (o : Nat → Nat) : mdN n o < 3 := by
  unfold mdN
  split
  · omega
  · split <;> omega
theorem bsA_cong {f g : Nat → Nat} : ∀ {n : Nat}, (∀ k, k < n → f k = g k) → bsA f n = bsA g n
  | 0, _ => rfl
  | n + 1, h => by
    simp only [bsA]
    rw [bsA_cong (n := n) (fun k hk => h k (by omega)), h n (by omega)]
theorem mdN_cong {n : Nat} {o o' : Nat → Nat} (h : ∀ k, k < n → o' k = o k) : mdN n o' = mdN n o := by
  have h1 : fnd (fun k => decide (o' k = 0)) n 0 = fnd (fun k => decide (o k = 0)) n 0 := fnd_cong (fun i _ h2 => by rw [h i (by omega)])
  have h2 : bsA (fun k => pc 30 (o' k)) n = bsA (fun k => pc 30 (o k)) n := bsA_cong (fun k hk => by rw [h k hk])
  unfold mdN
  rw [h1, h2]
theorem nwA_M {a : eRow} : iM (nwA a) := by
  have e3 : nwA a 3 = a 3 := nwA_sm 3 (by omega)
  have h := mdN_lt (a 3) (nwO a)
  refine ⟨by rw [nwA_4]; omega, fun h2 => by rw [nwA_4] at h2; omega, fun _ => ?_⟩
  rw [nwA_4, e3]
  exact (mdN_cong (fun k hk => nwA_op hk)).symm
theorem nwA_T {a : eRow} (hG : iG a) (hV : iV a) (hO : iO a) (hT : iT a) : iT (nwA a) := by
  have e3 : nwA a 3 = a 3 := nwA_sm 3 (by omega)
  have e2 : nwA a 2 = a 2 := nwA_sm 2 (by omega)
  have e5 : nwA a 5 = a 5 := nwA_hi (by omega) (by omega)
  have hn := hG.1.2.2.2.2
  intro l hl
  rw [e5] at hl
  obtain ⟨h1, h2, h3, h4, h5, h6⟩ := hT l hl
  have g1 : gs (nwA a) l = gs a l := nwA_hi (by omega) (by omega)
  have g2 : gw (nwA a) l = gw a l := nwA_hi (by omega) (by omega)
  have g3 : ∀ l' k, bf (nwA a) l' k = bf a l' k := fun l' k => nwA_hi (by omega) (by omega)
  rw [g1, g2, e3, e2, g3, e5]
  refine ⟨h1, h2, h3, ?_, ?_, fun l' h7 h8 => by rw [g3]; exact h6 l' h7 h8⟩
  · exact mA_cong (fun k _ => g3 l k) (sm_mA nwA_sm hG hV h4)
  · rw [nwA_op h1]
    exact Nat.le_trans (pc_mono (nwO_sub hO h1).2) h5
theorem iA_nw {a : eRow} (hG : iG a) (hV : iV a) (hO : iO a) (hT : iT a) : iA (nwA a) := ⟨sm_iG nwA_sm hG, sm_iV nwA_sm hV, nwA_O hG hV hO, nwA_T hG hV hO hT, nwA_M⟩
theorem ba1_T {a : eRow} : iT (ba1 a) := fun l hl => by rw [ba1_5] at hl; omega
theorem iA_bg {a : eRow} (hG : iG a) (hV : iV a) : iA (bgA a) := iA_nw (sm_iG ba1_sm hG) (sm_iV ba1_sm hV) (ba1_O hG hV) ba1_T
/-! a guess -/
def bfR (a : eRow) (d n : Nat) : eRow := fun i => if 388 + 24 * d ≤ i ∧ i < 388 + 24 * d + n then a (316 + (i - (388 + 24 * d))) else a i
def psA (a : eRow) (k w : Nat) : eRow := up (up (up (bfR (up (up a (340 + 2 * a 5) k) (340 + 2 * a 5 + 1) w) (a 5) (a 3)) 5 (a 5 + 1)) 6 (a 6 + 1)) (316 + k) (2 ^ w)
theorem bfR_ne {a : eRow} {d n i : Nat} (h : ¬ (388 + 24 * d ≤ i ∧ i < 388 + 24 * d + n)) : bfR a d n i = a i := if_neg h
theorem bfR_at {a : eRow} {d n j : Nat} (h : j < n) : bfR a d n (388 + 24 * d + j) = a (316 + j) := by
  unfold bfR
  rw [if_pos (by omega), Nat.add_sub_cancel_left]
def gsA (a : eRow) (k w : Nat) : eRow := nwA (psA a k w)
theorem psA_lo {a : eRow} {k w i : Nat} (h : i < 316) (h5 : i ≠ 5) (h6 : i ≠ 6) : psA a k w i = a i := by
  unfold psA
  rw [up_ne (by omega), up_ne h6, up_ne h5, bfR_ne (by omega), up_ne (by omega), up_ne (by omega)]
theorem psA_sm {a : eRow} {k w : Nat} : sm a (psA a k w) := fun i hi => psA_lo (by omega) (by omega) (by omega)
theorem psA_5 {a : eRow} {k w : Nat} : psA a k w 5 = a 5 + 1 := by
  unfold psA
  rw [up_ne (by omega), up_ne (by omega), up_at]
theorem psA_6 {a : eRow} {k w : Nat} : psA a k w 6 = a 6 + 1 := by
  unfold psA
  rw [up_ne (by omega), up_at]
theorem psA_op {a : eRow} {k w j : Nat} (hj : j < 24) (h24 : a 5 < 24) : op (psA a k w) j = if j = k then 2 ^ w else op a j := by
  unfold op psA
  by_cases h : j = k
  · rw [if_pos h, h, up_at]
  · rw [if_neg h, up_ne (by omega), up_ne (by omega), up_ne (by omega), bfR_ne (by omega), up_ne (by omega), up_ne (by omega)]
theorem psA_g {a : eRow} {k w l : Nat} (hk : k < 24) (hl : l ≤ a 5) (h24 : a 5 < 24) : gs (psA a k w) l = (if l = a 5 then k else gs a l) ∧ gw (psA a k w) l = (if l = a 5 then w else gw a l) := by
  unfold gs gw psA
  by_cases h : l = a 5
  · rw [if_pos h, if_pos h, h]
    constructor
    · rw [up_ne (by omega), up_ne (by omega), up_ne (by omega), bfR_ne (by omega), up_ne (by omega), up_at]
    · rw [up_ne (by omega), up_ne (by omega), up_ne (by omega), bfR_ne (by omega), up_at]
  · rw [if_neg h, if_neg h]
    constructor
    · rw [up_ne (by omega), up_ne (by omega), up_ne (by omega), bfR_ne (by omega), up_ne (by omega), up_ne (by omega)]
    · rw [up_ne (by omega), up_ne (by omega), up_ne (by omega), bfR_ne (by omega), up_ne (by omega), up_ne (by omega)]
theorem psA_bf {a : eRow} {k w l j : Nat} (hk : k < 24) (hl : l ≤ a 5) (h24 : a 5 < 24) (hj : j < a 3) (hn : a 3 ≤ 24) : bf (psA a k w) l j = if l = a 5 then op a j else bf a l j := by
  unfold bf op psA
  rw [up_ne (by omega), up_ne (by omega), up_ne (by omega)]
  by_cases h : l = a 5
  · rw [if_pos h, h, bfR_at hj, up_ne (by omega), up_ne (by omega)]
  · rw [if_neg h, bfR_ne (by omega), up_ne (by omega), up_ne (by omega)]
/-- there is room for one more guess -/
theorem iT_room {a : eRow} (hn : a 3 ≤ 24) (hT : iT a) {k : Nat} (hk : k < a 3) (h1 : 1 < pc 30 (op a k)) : a 5 < a 3 := by
  have h := fb_holes (a 3) (a 5 + 1) (fun i => if i < a 5 then gs a i else k) (fun i hi => by
    split
    · exact (hT i (by assumption)).1
    · exact hk) (fun i j hij hj => by
    rw [if_pos (show i < a 5 by omega)]
    obtain ⟨_, _, _, _, q5, q6⟩ := hT i (by omega)
    by_cases hj5 : j < a 5
    · rw [if_pos hj5]
      intro e
      have q7 := q6 j hij hj5
      have q8 := (hT j hj5).2.2.1
      rw [← e] at q8
      omega
    · rw [if_neg hj5]
      intro e
      rw [e] at q5
      omega)
  omega
theorem pc_two : ∀ w, w < 30 → pc 30 (2 ^ w) = 1 := by decide +kernel
theorem ps_all {a : eRow} (hG : iG a) (hV : iV a) (hO : iO a) (hT : iT a) {k w : Nat} (hk : k < a 3) (h1 : 1 < pc 30 (op a k)) (hw : (op a k).testBit w = true) : iG (psA a k w) ∧ iV (psA a k w) ∧ iO (psA a k w) ∧ iT (psA a k w) := by
  have hn := hG.1.2.2.2.2
  have hm30 := hV.1
  have h5 := iT_room hn hT hk h1
  have hsm := psA_sm (a := a) (k := k) (w := w)
  have e3 : psA a k w 3 = a 3 := hsm 3 (by omega)
  have e2 : psA a k w 2 = a 2 := hsm 2 (by omega)
  have hwk := (hO k hk).2 w hw
  have hmk : mA a (fun j => if j = k then 2 ^ w else op a j) := fun j hj => by
    dsimp only
    by_cases hjk : j = k
    · subst hjk
      rw [if_pos rfl]
      refine ⟨Nat.lt_of_lt_of_le (Nat.pow_lt_pow_right (by decide) (show w < 30 by omega)) (by decide), fun v hv => ?_⟩
      rw [Nat.testBit_two_pow] at hv
      have := of_decide_eq_true hv
      subst this
      exact hwk
    · rw [if_neg hjk]
      exact hO j hj
  refine ⟨sm_iG hsm hG, sm_iV hsm hV, mA_cong (fun j hj => psA_op (by rw [e3] at hj; omega) (by omega)) (sm_mA hsm hG hV hmk), fun l hl => ?_⟩
  rw [psA_5] at hl
  have hg := psA_g (a := a) (k := k) (w := w) (l := l) (by omega) (by omega) (by omega)
  rw [hg.1, hg.2, e3, e2, psA_5]
  have hbm : ∀ l j, l ≤ a 5 → j < a 3 → bf (psA a k w) l j = if l = a 5 then op a j else bf a l j := fun l j h1 h2 => psA_bf (by omega) h1 (by omega) h2 hn
  by_cases hl5 : l = a 5
  · subst hl5
    rw [if_pos rfl, if_pos rfl]
    refine ⟨hk, hwk.1, by rw [hbm _ _ (Nat.le_refl _) hk, if_pos rfl]; exact h1, ?_, ?_, fun l' h7 h8 => absurd h8 (by omega)⟩
    · refine mA_cong (fun j hj => ?_) (sm_mA hsm hG hV (iO_mA hO))
      rw [e3] at hj
      rw [hbm _ _ (Nat.le_refl _) hj, if_pos rfl]
    · rw [psA_op (by omega) (by omega), if_pos rfl, pc_two w (by omega)]
      exact Nat.le_refl 1
  · rw [if_neg hl5, if_neg hl5]
    obtain ⟨q1, q2, q3, q4, q5, q6⟩ := hT l (by omega)
    refine ⟨q1, q2, by rw [hbm _ _ (by omega) q1, if_neg hl5]; exact q3, ?_, ?_, fun l' h7 h8 => ?_⟩
    · refine mA_cong (fun j hj => ?_) (sm_mA hsm hG hV q4)
      rw [e3] at hj
      rw [hbm _ _ (by omega) hj, if_neg hl5]
    · rw [psA_op (by omega) (by omega), if_neg (fun e => by rw [e] at q5; omega)]
      exact q5
    · rw [hbm _ _ (by omega) q1]
      split
      · exact q5
      · exact q6 l' h7 (by omega)
/-! taking back -/
def rsR (b : eRow) (d n : Nat) : eRow := fun i => if 316 ≤ i ∧ i < 316 + n then b (388 + 24 * d + (i - 316)) else b i
def ppA (a : eRow) : eRow := up (rsR (up (up a 5 (a 5 - 1)) 7 (a 7 + 1)) (a 5 - 1) (a 3)) (316 + gs a (a 5 - 1)) (nDiff (bf a (a 5 - 1) (gs a (a 5 - 1))) (2 ^ gw a (a 5 - 1)))
def tbA (a : eRow) : eRow := nwA (ppA a)
theorem rsR_ne {b : eRow} {d n i : Nat} (h : ¬ (316 ≤ i ∧ i < 316 + n)) : rsR b d n i = b i := if_neg h
theorem rsR_at {b : eRow} {d n j : Nat} (h : j < n) : rsR b d n (316 + j) = b (388 + 24 * d + j) := by
  unfold rsR
  rw [if_pos (by omega), Nat.add_sub_cancel_left]
theorem ppA_lo {a : eRow} {i : Nat} (h : i < 316) (h5 : i ≠ 5) (h7 : i ≠ 7) : ppA a i = a i := by
  unfold ppA
  rw [up_ne (by omega), rsR_ne (by omega), up_ne h7, up_ne h5]
theorem ppA_sm {a : eRow} : sm a (ppA a) := fun i hi => ppA_lo (by omega) (by omega) (by omega)
theorem ppA_5 {a : eRow} : ppA a 5 = a 5 - 1 := by
  unfold ppA
  rw [up_ne (by omega), rsR_ne (by omega), up_ne (by omega), up_at]
theorem ppA_7 {a : eRow} : ppA a 7 = a 7 + 1 := by
  unfold ppA
  rw [up_ne (by omega), rsR_ne (by omega), up_at]
theorem ppA_hi {a : eRow} {i : Nat} (h : 316 + a 3 ≤ i) (hg : gs a (a 5 - 1) < a 3) : ppA a i = a i := by
  unfold ppA
  rw [up_ne (by omega), rsR_ne (by omega), up_ne (by omega), up_ne (by omega)]
theorem ppA_op {a : eRow} {j : Nat} (hj : j < a 3) (hn : a 3 ≤ 24) : op (ppA a) j = if j = gs a (a 5 - 1) then nDiff (bf a (a 5 - 1) j) (2 ^ gw a (a 5 - 1)) else bf a (a 5 - 1) j := by
  unfold op ppA
  by_cases h : j = gs a (a 5 - 1)
  · rw [if_pos h, h, up_at]
  · rw [if_neg h, up_ne (by omega), rsR_at hj, up_ne (by omega), up_ne (by omega)]
    rfl
theorem nDiff_sub {m d w : Nat} (hm : m < 1073741824) (h : (nDiff m d).testBit w = true) : m.testBit w = true := by
  rw [nDiff_tb _ _ _ (by omega)] at h
  exact (Bool.and_eq_true_iff.mp h).1
theorem pp_all {a : eRow} (hG : iG a) (hV : iV a) (hT : iT a) (h5 : 0 < a 5) : iG (ppA a) ∧ iV (ppA a) ∧ iO (ppA a) ∧ iT (ppA a) := by
  have hn := hG.1.2.2.2.2
  have hsm := ppA_sm (a := a)
  have e3 : ppA a 3 = a 3 := hsm 3 (by omega)
  have e2 : ppA a 2 = a 2 := hsm 2 (by omega)
  obtain ⟨t1, t2, t3, t4, t5, t6⟩ := hT (a 5 - 1) (by omega)
  have hmo : mA a (op (ppA a)) := fun j hj => by
    rw [ppA_op hj hn]
    have hb := t4 j hj
    split
    · exact ⟨Nat.lt_of_le_of_lt Nat.and_le_left hb.1, fun w hw => hb.2 w (nDiff_sub hb.1 hw)⟩
    · exact hb
  refine ⟨sm_iG hsm hG, sm_iV hsm hV, sm_mA hsm hG hV hmo, fun l hl => ?_⟩
  rw [ppA_5] at hl
  obtain ⟨q1, q2, q3, q4, q5, q6⟩ := hT l (by omega)
  have g1 : gs (ppA a) l = gs a l := ppA_hi (by omega) t1
  have g2 : gw (ppA a) l = gw a l := ppA_hi (by omega) t1
  have g3 : ∀ l' k, bf (ppA a) l' k = bf a l' k := fun l' k => ppA_hi (by omega) t1
  rw [g1, g2, e3, e2, g3, ppA_5]
  refine ⟨q1, q2, q3, mA_cong (fun k _ => g3 l k) (sm_mA hsm hG hV q4), ?_, fun l' h7 h8 => by rw [g3]; exact q6 l' h7 (by omega)⟩
  have h9 := q6 (a 5 - 1) (by omega) (by omega)
  rw [ppA_op q1 hn]
  split
  · exact Nat.le_trans (pc_mono (fun w hw => nDiff_sub (t4 _ q1).1 hw)) h9
  · exact h9
