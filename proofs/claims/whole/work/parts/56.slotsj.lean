/-! What the slots are, as they are made one by one. -/
theorem opn_cong {W H : Nat} {B B' : Nat → Nat} (hW : W < 7) (hH : H < 7) (h : ∀ e, e < 36 → B e = B' e) (x y : Int) : opn W H B x y = opn W H B' x y := by
  unfold opn
  cases hi : inG W H x y with
  | false => rfl
  | true =>
    have h2 := inG_iff.mp hi
    rw [h _ (by omega)]
theorem begs_cong {W H : Nat} {B B' : Nat → Nat} (hW : W < 7) (hH : H < 7) (h : ∀ e, e < 36 → B e = B' e) (d X Y : Nat) : begs W H B d X Y = begs W H B' d X Y := by
  unfold begs
  rw [opn_cong hW hH h, opn_cong hW hH h, opn_cong hW hH h]
theorem rlen_cong {W H : Nat} {B B' : Nat → Nat} (hW : W < 7) (hH : H < 7) (h : ∀ e, e < 36 → B e = B' e) (d X Y : Nat) : rlen W H B d X Y = rlen W H B' d X Y := by
  unfold rlen
  rw [show runq W H B d X Y = runq W H B' d X Y from funext (fun p => opn_cong hW hH h _ _)]
def bN (W H : Nat) (B : Nat → Nat) (d X Y : Nat) : Nat := if begs W H B d X Y = true then 1 else 0
def rwC (W H : Nat) (B : Nat → Nat) (Y X : Nat) : Nat := fb_sm (fun x => bN W H B 0 x Y + bN W H B 1 x Y) X
def cC (W H : Nat) (B : Nat → Nat) (Y X d : Nat) : Nat := fb_sm (fun y => rwC W H B y W) Y + rwC W H B Y X + (if d = 0 then 0 else bN W H B 0 X Y) + (if d = 2 then bN W H B 1 X Y else 0)
theorem cC_x {W H : Nat} {B : Nat → Nat} {Y X : Nat} : cC W H B Y X 2 = cC W H B Y (X + 1) 0 := by
  have h : rwC W H B Y (X + 1) = rwC W H B Y X + (bN W H B 0 X Y + bN W H B 1 X Y) := rfl
  unfold cC
  rw [h, if_neg (by omega), if_pos rfl, if_pos rfl, if_neg (by omega)]
  omega
theorem cC_y {W H : Nat} {B : Nat → Nat} {Y : Nat} : cC W H B Y W 0 = cC W H B (Y + 1) 0 0 := by
  unfold cC
  rw [fb_sm_succ]
  show _ + _ + 0 + 0 = _ + _ + 0 + 0 + 0
  omega
theorem fb_swap (f : Nat → Nat → Nat) (W : Nat) : ∀ H, fb_sm (fun y => fb_sm (fun x => f x y) W) H = fb_sm (fun x => fb_sm (fun y => f x y) H) W
  | 0 => by
    show 0 = fb_sm (fun x => 0) W
    rw [fb_sm_const]
    omega
  | H + 1 => by
    rw [fb_sm_succ, fb_swap f W H, ← fb_sm_add]
    rfl
theorem gap3 {b : Nat → Nat} (h : ∀ x, b x ≤ 1 ∧ b x + b (x + 1) ≤ 1 ∧ b x + b (x + 2) ≤ 1) {W : Nat} (hW : W < 7) : fb_sm b W ≤ 2 := by
  have h1 := fb_sm_mono b W (6 - W)
  rw [show W + (6 - W) = 6 by omega] at h1
  have h6 : fb_sm b 6 = b 0 + b 1 + b 2 + b 3 + b 4 + b 5 := by
    show 0 + b 0 + b 1 + b 2 + b 3 + b 4 + b 5 = _
    omega
  have a0 : b 0 + b 1 ≤ 1 := (h 0).2.1
  have a1 : b 0 + b 2 ≤ 1 := (h 0).2.2
  have a2 : b 1 + b 2 ≤ 1 := (h 1).2.1
  have a3 : b 3 + b 4 ≤ 1 := (h 3).2.1
  have a4 : b 3 + b 5 ≤ 1 := (h 3).2.2
  have a5 : b 4 + b 5 ≤ 1 := (h 4).2.1
  omega
theorem begs_no {W H : Nat} {B : Nat → Nat} {d X Y : Nat} (h : begs W H B d X Y = true) : opn W H B (X : Int) (Y : Int) = true ∧ opn W H B ((X : Int) - ((1 - d : Nat) : Int)) ((Y : Int) - (d : Int)) = false ∧ opn W H B ((X : Int) + ((1 - d : Nat) : Int)) ((Y : Int) + (d : Int)) = true := by
  unfold begs at h
  simp only [Bool.and_eq_true, Bool.not_eq_true'] at h
  exact ⟨h.1, h.2.1, h.2.2⟩
theorem b0_gap {W H : Nat} {B : Nat → Nat} {Y : Nat} (x : Nat) : bN W H B 0 x Y ≤ 1 ∧ bN W H B 0 x Y + bN W H B 0 (x + 1) Y ≤ 1 ∧ bN W H B 0 x Y + bN W H B 0 (x + 2) Y ≤ 1 := by
  unfold bN
  cases h0 : begs W H B 0 x Y with
  | false => simp; constructor <;> split <;> omega
  | true =>
    obtain ⟨p1, p2, p3⟩ := begs_no h0
    have h1 : begs W H B 0 (x + 1) Y = false := by
      cases h1 : begs W H B 0 (x + 1) Y with
      | false => rfl
      | true =>
        obtain ⟨q1, q2, q3⟩ := begs_no h1
        rw [show (((x + 1 : Nat) : Int) - ((1 - 0 : Nat) : Int)) = (x : Int) by omega, show ((Y : Int) - ((0 : Nat) : Int)) = (Y : Int) by omega, p1] at q2
        cases q2
    have h2 : begs W H B 0 (x + 2) Y = false := by
      cases h2 : begs W H B 0 (x + 2) Y with
      | false => rfl
      | true =>
        obtain ⟨q1, q2, q3⟩ := begs_no h2
        rw [show ((x : Int) + ((1 - 0 : Nat) : Int)) = ((x + 2 : Nat) : Int) - ((1 - 0 : Nat) : Int) by omega, show ((Y : Int) + ((0 : Nat) : Int)) = (Y : Int) - ((0 : Nat) : Int) by omega, q2] at p3
        cases p3
    rw [h1, h2]
    simp
theorem b1_gap {W H : Nat} {B : Nat → Nat} {X : Nat} (y : Nat) : bN W H B 1 X y ≤ 1 ∧ bN W H B 1 X y + bN W H B 1 X (y + 1) ≤ 1 ∧ bN W H B 1 X y + bN W H B 1 X (y + 2) ≤ 1 := by
  unfold bN
  cases h0 : begs W H B 1 X y with
  | false => simp; constructor <;> split <;> omega
  | true =>
    obtain ⟨p1, p2, p3⟩ := begs_no h0
    have h1 : begs W H B 1 X (y + 1) = false := by
      cases h1 : begs W H B 1 X (y + 1) with
      | false => rfl
      | true =>
        obtain ⟨q1, q2, q3⟩ := begs_no h1
        rw [show ((X : Int) - ((1 - 1 : Nat) : Int)) = (X : Int) by omega, show (((y + 1 : Nat) : Int) - ((1 : Nat) : Int)) = (y : Int) by omega, p1] at q2
        cases q2
    have h2 : begs W H B 1 X (y + 2) = false := by
      cases h2 : begs W H B 1 X (y + 2) with
      | false => rfl
      | true =>
        obtain ⟨q1, q2, q3⟩ := begs_no h2
        rw [show ((X : Int) + ((1 - 1 : Nat) : Int)) = (X : Int) - ((1 - 1 : Nat) : Int) by omega, show ((y : Int) + ((1 : Nat) : Int)) = ((y + 2 : Nat) : Int) - ((1 : Nat) : Int) by omega, q2] at p3
        cases p3
    rw [h1, h2]
    simp
theorem cC_24 {W H : Nat} {B : Nat → Nat} (hW : W < 7) (hH : H < 7) : cC W H B H 0 0 ≤ 24 := by
  have e : cC W H B H 0 0 = fb_sm (fun y => fb_sm (fun x => bN W H B 0 x y) W) H + fb_sm (fun y => fb_sm (fun x => bN W H B 1 x y) W) H := by
    show fb_sm (fun y => rwC W H B y W) H + 0 + 0 + 0 = _
    rw [← fb_sm_add]
    refine fb_sm_cong (fun y _ => ?_)
    show fb_sm (fun x => bN W H B 0 x y + bN W H B 1 x y) W = _
    rw [fb_sm_add]
  rw [e, fb_swap (fun x y => bN W H B 1 x y)]
  have h1 := fb_sm_bound (f := fun y => fb_sm (fun x => bN W H B 0 x y) W) (c := 2) (n := H) (fun y _ => gap3 (fun x => b0_gap x) hW)
  have h2 := fb_sm_bound (f := fun x => fb_sm (fun y => bN W H B 1 x y) H) (c := 2) (n := W) (fun x _ => gap3 (fun y => b1_gap y) hH)
  omega
theorem cC_le {W H : Nat} {B : Nat → Nat} {X Y : Nat} (hW : W < 7) (hH : H < 7) (hX : X < W) (hY : Y < H) : cC W H B Y X 2 ≤ 24 := by
  have h0 := cC_24 (B := B) hW hH
  have h1 := fb_sm_mono (fun x => bN W H B 0 x Y + bN W H B 1 x Y) (X + 1) (W - (X + 1))
  rw [show X + 1 + (W - (X + 1)) = W by omega] at h1
  have h2 := fb_sm_mono (fun y => rwC W H B y W) (Y + 1) (H - (Y + 1))
  rw [show Y + 1 + (H - (Y + 1)) = H by omega, fb_sm_succ] at h2
  have h3 : rwC W H B Y W = fb_sm (fun x => bN W H B 0 x Y + bN W H B 1 x Y) W := rfl
  rw [cC_x]
  show fb_sm (fun y => rwC W H B y W) Y + fb_sm (fun x => bN W H B 0 x Y + bN W H B 1 x Y) (X + 1) + 0 + 0 ≤ 24
  have h4 : cC W H B H 0 0 = fb_sm (fun y => rwC W H B y W) H := by show _ + 0 + 0 + 0 = _; omega
  omega
/-- what holds when the slots before the place (d, X, Y) are made -/
def iJ (W H : Nat) (B : Nat → Nat) (a : eRow) (d X Y : Nat) : Prop := (a 0 = W ∧ a 1 = H ∧ ∀ e, e < 36 → bl a e = B e) ∧ a 3 = cC W H B Y X d ∧
  (∀ k, k < a 3 → sd a k ≤ 1 ∧ begs W H B (sd a k) (sx a k) (sy a k) = true ∧ sl a k = rlen W H B (sd a k) (sx a k) (sy a k) ∧ (sy a k < Y ∨ (sy a k = Y ∧ (sx a k < X ∨ (sx a k = X ∧ sd a k < d))))) ∧
  (∀ q e, q ≤ 1 → e < 36 → a (base q + e) ≠ 0 → a (base q + e) ≤ a 3 ∧ sd a (a (base q + e) - 1) = q ∧ iru q (sx a (a (base q + e) - 1)) (sy a (a (base q + e) - 1)) (sl a (a (base q + e) - 1)) e = true) ∧
  (∀ k e, k < a 3 → e < 36 → iru (sd a k) (sx a k) (sy a k) (sl a k) e = true → a (base (sd a k) + e) = k + 1)
theorem slS_hi {a : eRow} {d X Y L i : Nat} (hn : a 3 < 24) (hi : 244 ≤ i) : slS a d X Y L i = runA a d X Y L i := by
  unfold slS up
  rw [if_neg (by omega), if_neg (by omega), if_neg (by omega), if_neg (by omega), if_neg (by omega)]
theorem slS_3 {a : eRow} {d X Y L : Nat} : slS a d X Y L 3 = a 3 + 1 := by
  unfold slS up
  rw [if_pos rfl]
theorem slS_lo {a : eRow} {d X Y L i : Nat} (h3 : i ≠ 3) (hi : i < 148 + 4 * a 3) (h2 : i < 244) : slS a d X Y L i = a i := by
  unfold slS up
  rw [if_neg h3, if_neg (by omega), if_neg (by omega), if_neg (by omega), if_neg (by omega), runA_lo h2]
theorem slS_new {a : eRow} {d X Y L : Nat} : sx (slS a d X Y L) (a 3) = X ∧ sy (slS a d X Y L) (a 3) = Y ∧ sl (slS a d X Y L) (a 3) = L ∧ sd (slS a d X Y L) (a 3) = d := by
  unfold sx sy sl sd slS up
  refine ⟨?_, ?_, ?_, ?_⟩
  · rw [if_neg (by omega), if_neg (by omega), if_neg (by omega), if_neg (by omega), if_pos rfl]
  · rw [if_neg (by omega), if_neg (by omega), if_neg (by omega), if_pos rfl]
  · rw [if_neg (by omega), if_neg (by omega), if_pos rfl]
  · rw [if_neg (by omega), if_pos rfl]
theorem slS_old {a : eRow} {d X Y L k : Nat} (hn : a 3 < 24) (hk : k < a 3) : sx (slS a d X Y L) k = sx a k ∧ sy (slS a d X Y L) k = sy a k ∧ sl (slS a d X Y L) k = sl a k ∧ sd (slS a d X Y L) k = sd a k := ⟨slS_lo (by omega) (by omega) (by omega), slS_lo (by omega) (by omega) (by omega), slS_lo (by omega) (by omega) (by omega), slS_lo (by omega) (by omega) (by omega)⟩
theorem base_v (q : Nat) : base q = if q = 1 then 280 else 244 := rfl
theorem slS_map {a : eRow} {d X Y L q e : Nat} (hn : a 3 < 24) (hd : d ≤ 1) (hq : q ≤ 1) (he : e < 36) : slS a d X Y L (base q + e) = if q = d ∧ iru d X Y L e = true then a 3 + 1 else a (base q + e) := by
  rw [slS_hi hn (by rw [base_v]; split <;> omega)]
  unfold runA
  by_cases hqd : q = d
  · subst hqd
    by_cases hi : iru q X Y L e = true
    · rw [if_pos ⟨by omega, by omega, by rw [Nat.add_sub_cancel_left]; exact hi⟩, if_pos ⟨rfl, hi⟩]
    · rw [if_neg (fun h => hi (by have := h.2.2; rw [Nat.add_sub_cancel_left] at this; exact this)), if_neg (fun h => hi h.2)]
  · have hbb : (base q = 244 ∧ base d = 280) ∨ (base q = 280 ∧ base d = 244) := by
      rw [base_v, base_v]
      rcases Nat.lt_or_ge q 1 with h | h
      · rw [if_neg (by omega), if_pos (by omega)]; exact Or.inl ⟨rfl, rfl⟩
      · rw [if_pos (by omega), if_neg (by omega)]; exact Or.inr ⟨rfl, rfl⟩
    rw [if_neg (by omega), if_neg (fun h => hqd h.1)]
/-- a run and an earlier one have no cell in common -/
theorem run_apart {W H : Nat} {B : Nat → Nat} {d X Y x y L l e : Nat} (hW : W < 7) (hH : H < 7) (hd : d ≤ 1) (hb : begs W H B d X Y = true) (hl : l = rlen W H B d x y) (hbef : y < Y ∨ (y = Y ∧ x < X)) (h1 : iru d X Y L e = true) (h2 : iru d x y l e = true) : False := by
  obtain ⟨p1, p2, p3⟩ := begs_no hb
  have hr := (rlen_spec (B := B) (d := d) (X := x) (Y := y) hW hH hd).2.1
  rw [← hl] at hr
  unfold iru at h1 h2
  rcases Nat.lt_or_ge d 1 with hd0 | hd0
  · obtain rfl : d = 0 := by omega
    rw [if_neg (by omega)] at h1 h2
    have h3 := of_decide_eq_true h1
    have h4 := of_decide_eq_true h2
    have h5 := hr (X - 1 - x) (by omega)
    unfold runq at h5
    rw [show ((x + (X - 1 - x) * (1 - 0) : Nat) : Int) = (X : Int) - ((1 - 0 : Nat) : Int) by omega, show ((y + (X - 1 - x) * 0 : Nat) : Int) = (Y : Int) - ((0 : Nat) : Int) by omega, p2] at h5
    cases h5
  · obtain rfl : d = 1 := by omega
    rw [if_pos rfl] at h1 h2
    have h3 := of_decide_eq_true h1
    have h4 := of_decide_eq_true h2
    have h5 := hr (Y - 1 - y) (by omega)
    unfold runq at h5
    rw [show ((x + (Y - 1 - y) * (1 - 1) : Nat) : Int) = (X : Int) - ((1 - 1 : Nat) : Int) by omega, show ((y + (Y - 1 - y) * 1 : Nat) : Int) = (Y : Int) - ((1 : Nat) : Int) by omega, p2] at h5
    cases h5
theorem iJ_step {W H : Nat} {B : Nat → Nat} {a : eRow} {d X Y : Nat} (hW : W < 7) (hH : H < 7) (hd : d ≤ 1) (hX : X < W) (hY : Y < H) (hJ : iJ W H B a d X Y) : (begs (a 0) (a 1) (bl a) d X Y = true → a 3 < 24) ∧ iJ W H B (mkS d a X Y) (d + 1) X Y := by
  obtain ⟨⟨j0, j1, jB⟩, j3, j4, j5, j6⟩ := hJ
  have hle := cC_le (B := B) hW hH hX hY
  have hcc : cC W H B Y X 2 = cC W H B Y X 0 + bN W H B 0 X Y + bN W H B 1 X Y := by
    unfold cC
    rw [if_neg (by omega), if_pos rfl, if_pos rfl, if_neg (by omega)]
    omega
  have hc1 : cC W H B Y X 1 = cC W H B Y X 0 + bN W H B 0 X Y := by
    unfold cC
    rw [if_neg (by omega), if_neg (by omega), if_pos rfl, if_neg (by omega)]
    omega
  have hcd : cC W H B Y X (d + 1) = cC W H B Y X d + bN W H B d X Y := by
    rcases Nat.lt_or_ge d 1 with hd0 | hd0
    · obtain rfl : d = 0 := by omega
      exact hc1
    · obtain rfl : d = 1 := by omega
      rw [hcc, hc1]
  have hbg : begs (a 0) (a 1) (bl a) d X Y = begs W H B d X Y := by rw [j0, j1]; exact begs_cong hW hH jB d X Y
  have hrl : rlen (a 0) (a 1) (bl a) d X Y = rlen W H B d X Y := by rw [j0, j1]; exact rlen_cong hW hH jB d X Y
  have hlt : begs W H B d X Y = true → a 3 < 24 := fun h => by
    have hb1 : bN W H B d X Y = 1 := by unfold bN; rw [if_pos h]
    rcases Nat.lt_or_ge d 1 with hd0 | hd0
    · obtain rfl : d = 0 := by omega
      omega
    · obtain rfl : d = 1 := by omega
      omega
  refine ⟨fun h => hlt (by rw [← hbg]; exact h), ?_⟩
  unfold mkS
  rw [hbg, hrl]
  cases hb : begs W H B d X Y with
  | false =>
    rw [cond_false]
    have hb0 : bN W H B d X Y = 0 := by unfold bN; rw [hb]; rfl
    refine ⟨⟨j0, j1, jB⟩, by rw [j3, hcd, hb0]; rfl, fun k hk => ?_, j5, j6⟩
    obtain ⟨q1, q2, q3, q4⟩ := j4 k hk
    exact ⟨q1, q2, q3, by omega⟩
  | true =>
    rw [cond_true]
    have hn := hlt hb
    have hb1 : bN W H B d X Y = 1 := by unfold bN; rw [if_pos hb]
    generalize hL : rlen W H B d X Y = L
    have hnew := slS_new (a := a) (d := d) (X := X) (Y := Y) (L := L)
    refine ⟨⟨?_, ?_, fun e he => ?_⟩, by rw [slS_3, j3, hcd, hb1], fun k hk => ?_, fun q e hq he hne => ?_, fun k e hk he hi => ?_⟩
    · rw [slS_lo (by omega) (by omega) (by omega)]; exact j0
    · rw [slS_lo (by omega) (by omega) (by omega)]; exact j1
    · show slS a d X Y L (16 + e) = B e
      rw [slS_lo (by omega) (by omega) (by omega)]
      exact jB e he
    · rw [slS_3] at hk
      by_cases hkn : k = a 3
      · subst hkn
        rw [hnew.1, hnew.2.1, hnew.2.2.1, hnew.2.2.2]
        exact ⟨hd, hb, hL.symm, by omega⟩
      · obtain ⟨o1, o2, o3, o4⟩ := slS_old (d := d) (X := X) (Y := Y) (L := L) hn (show k < a 3 by omega)
        rw [o1, o2, o3, o4]
        obtain ⟨q1, q2, q3, q4⟩ := j4 k (by omega)
        exact ⟨q1, q2, q3, by omega⟩
    · rw [slS_map hn hd hq he] at hne ⊢
      by_cases hc : q = d ∧ iru d X Y L e = true
      · rw [if_pos hc, slS_3, Nat.add_sub_cancel, hnew.1, hnew.2.1, hnew.2.2.1, hnew.2.2.2]
        exact ⟨Nat.le_refl _, hc.1.symm, by rw [hc.1]; exact hc.2⟩
      · rw [if_neg hc] at hne ⊢
        obtain ⟨q1, q2, q3⟩ := j5 q e hq he hne
        obtain ⟨o1, o2, o3, o4⟩ := slS_old (d := d) (X := X) (Y := Y) (L := L) hn (show a (base q + e) - 1 < a 3 by omega)
        rw [slS_3, o1, o2, o3, o4]
        exact ⟨by omega, q2, q3⟩
    · rw [slS_3] at hk
      by_cases hkn : k = a 3
      · subst hkn
        rw [hnew.1, hnew.2.1, hnew.2.2.1, hnew.2.2.2] at hi
        rw [hnew.2.2.2, slS_map hn hd hd he, if_pos ⟨rfl, hi⟩]
      · obtain ⟨o1, o2, o3, o4⟩ := slS_old (d := d) (X := X) (Y := Y) (L := L) hn (show k < a 3 by omega)
        rw [o1, o2, o3, o4] at hi
        obtain ⟨q1, q2, q3, q4⟩ := j4 k (by omega)
        rw [o4, slS_map hn hd q1 he, if_neg (fun h => ?_)]
        · exact j6 k e (by omega) he hi
        · rw [h.1] at hi q3 q4
          exact run_apart hW hH hd hb q3 (by omega) h.2 hi
theorem iJ_x {W H : Nat} {B : Nat → Nat} {a : eRow} {X Y : Nat} (hJ : iJ W H B a 2 X Y) : iJ W H B a 0 (X + 1) Y := by
  obtain ⟨j0, j3, j4, j5, j6⟩ := hJ
  refine ⟨j0, by rw [j3, cC_x], fun k hk => ?_, j5, j6⟩
  obtain ⟨q1, q2, q3, q4⟩ := j4 k hk
  exact ⟨q1, q2, q3, by omega⟩
theorem iJ_y {W H : Nat} {B : Nat → Nat} {a : eRow} {Y : Nat} (hJ : iJ W H B a 0 W Y) : iJ W H B a 0 0 (Y + 1) := by
  obtain ⟨j0, j3, j4, j5, j6⟩ := hJ
  refine ⟨j0, by rw [j3, cC_y], fun k hk => ?_, j5, j6⟩
  obtain ⟨q1, q2, q3, q4⟩ := j4 k hk
  exact ⟨q1, q2, q3, by omega⟩
/-- at the end the slots are those of a row -/
theorem iJ_iG {W H : Nat} {B : Nat → Nat} {a : eRow} (hW : 2 ≤ W ∧ W ≤ 6) (hH : 2 ≤ H ∧ H ≤ 6) (hJ : iJ W H B a 0 0 H) (hB : ∀ e, e < 36 → a (16 + e) ≤ 1 ∧ (a (52 + e) = 0 ∨ (97 ≤ a (52 + e) ∧ a (52 + e) ≤ 122))) : iG a := by
  obtain ⟨⟨j0, j1, jB⟩, j3, j4, j5, j6⟩ := hJ
  have h24 := cC_24 (B := B) (show W < 7 by omega) (show H < 7 by omega)
  have hs : ∀ k, k < a 3 → sd a k ≤ 1 ∧ 2 ≤ sl a k ∧ sl a k ≤ 6 ∧ sx a k < 6 ∧ sy a k < 6 ∧ (sd a k = 0 → sx a k + sl a k ≤ 6) ∧ (sd a k = 1 → sy a k + sl a k ≤ 6) := by
    intro k hk
    obtain ⟨q1, q2, q3, q4⟩ := j4 k hk
    obtain ⟨p1, p2, p3⟩ := begs_no q2
    obtain ⟨r1, r2, r3⟩ := rlen_spec (W := W) (H := H) (B := B) (d := sd a k) (X := sx a k) (Y := sy a k) (by omega) (by omega) q1
    rw [← q3] at r1 r2 r3
    have i1 := opn_in p1
    have h2 : 2 ≤ sl a k := by
      rcases Nat.lt_or_ge (sl a k) 2 with h | h
      · exfalso
        have h01 : sl a k = 0 ∨ sl a k = 1 := by omega
        unfold runq at r3
        rcases h01 with h0 | h0
        · rw [h0, show ((sx a k + 0 * (1 - sd a k) : Nat) : Int) = (sx a k : Int) by omega, show ((sy a k + 0 * sd a k : Nat) : Int) = (sy a k : Int) by omega, p1] at r3
          cases r3
        · rw [h0, show ((sx a k + 1 * (1 - sd a k) : Nat) : Int) = (sx a k : Int) + ((1 - sd a k : Nat) : Int) by omega, show ((sy a k + 1 * sd a k : Nat) : Int) = (sy a k : Int) + (sd a k : Int) by omega, p3] at r3
          cases r3
      · exact h
    have i2 := opn_in (r2 (sl a k - 1) (by omega))
    refine ⟨q1, h2, r1, by omega, by omega, fun h => ?_, fun h => ?_⟩
    · rw [h] at i2
      omega
    · rw [h] at i2
      omega
  refine ⟨⟨by omega, by omega, by omega, by omega, by omega⟩, fun e he => ⟨(hB e he).1, (hB e he).2, ?_, ?_⟩, hs, fun e he => ⟨fun h => ?_, fun h => ?_⟩, fun k p hk hp => ?_⟩
  · rcases Nat.eq_zero_or_pos (a (244 + e)) with h | h
    · omega
    · exact (j5 0 e (by omega) he (by show a (244 + e) ≠ 0; omega)).1
  · rcases Nat.eq_zero_or_pos (a (280 + e)) with h | h
    · omega
    · exact (j5 1 e (by omega) he (by show a (280 + e) ≠ 0; omega)).1
  · obtain ⟨q1, q2, q3⟩ := j5 0 e (by omega) he h
    have q4 := of_decide_eq_true q3
    exact ⟨q2, q4.1, q4.2.1, q4.2.2⟩
  · obtain ⟨q1, q2, q3⟩ := j5 1 e (by omega) he h
    have q4 := of_decide_eq_true q3
    exact ⟨q2, q4.1, q4.2.1, q4.2.2⟩
  · obtain ⟨h1, h2, h3, h4, h5, h6, h7⟩ := hs k hk
    have hc : cel a k p < 36 := by
      rcases Nat.lt_or_ge (sd a k) 1 with hd | hd
      · rw [cel_0 (by omega)]; have := h6 (by omega); omega
      · rw [cel_1 (by omega)]; have := h7 (by omega); omega
    have := j6 k (cel a k p) hk hc (by
      unfold iru
      rcases Nat.lt_or_ge (sd a k) 1 with hd | hd
      · rw [if_neg (by omega), cel_0 (by omega)]
        have := h6 (by omega)
        exact decide_eq_true (by omega)
      · rw [if_pos (by omega), cel_1 (by omega)]
        have := h7 (by omega)
        exact decide_eq_true (by omega))
    rw [base_v] at this
    exact this
