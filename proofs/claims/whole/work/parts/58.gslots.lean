/-! The class finds all slots, and what crosses. -/
theorem uS_ne {S : wS} {a b : Nat} {f : Nat → Int} (h : b ≠ a) : uS S a f b = S b := by
  unfold uS
  rw [show Nat.beq b a = false from by cases hb : Nat.beq b a with
    | false => rfl
    | true => exact absurd (Nat.eq_of_beq_eq_true hb) h]
  rfl
theorem uI_ne {S : wS} {a b i : Nat} {v : Int} (h : b ≠ a) : uI S a i v b = S b := uS_ne h
theorem uI_at {S : wS} {a i : Nat} {v : Int} : uI S a i v a = eUp (S a) i v := uS_at
/-- the window's grid is the row's, but what crosses -/
def wG1 (S : wS) (a : eRow) : Prop := (S 1 0 = (a 0 : Int) ∧ S 1 1 = (a 1 : Int) ∧ S 1 4 = (a 3 : Int)) ∧ (∀ e, e < 36 → S 2 e = (a (16 + e) : Int) ∧ S 3 e = (a (52 + e) : Int) ∧ S 7 e = (a (244 + e) : Int) - 1 ∧ S 8 e = (a (280 + e) : Int) - 1) ∧ (∀ k, k < a 3 → S 4 k = ((sy a k * 6 + sx a k : Nat) : Int) ∧ S 5 k = (sl a k : Int) ∧ S 6 k = (sd a k : Int))
def opl (a : eRow) (k p : Nat) : Int := if oth a k p = 0 then -1 else (((oth a k p - 1) * 6 + plc a k p : Nat) : Int)
def wX (S : wS) (a : eRow) (k : Nat) : Prop := ∀ p, p < sl a k → S 9 (k * 6 + p) = (oth a k p : Int) - 1 ∧ S 10 (k * 6 + p) = opl a k p
def wG (S : wS) (a : eRow) : Prop := wG1 S a ∧ ∀ k, k < a 3 → wX S a k
/-- all else stays -/
def kS (S S' : wS) : Prop := (∀ b, (b = 0 ∨ b = 2 ∨ b = 3 ∨ 11 ≤ b) → S' b = S b) ∧ S' 1 0 = S 1 0 ∧ S' 1 1 = S 1 1
theorem kS_rf {S : wS} : kS S S := ⟨fun _ _ => rfl, rfl, rfl⟩
theorem kS_tr {S S' S'' : wS} (h : kS S S') (h2 : kS S' S'') : kS S S'' := ⟨fun b hb => (h2.1 b hb).trans (h.1 b hb), h2.2.1.trans h.2.1, h2.2.2.trans h.2.2⟩
theorem ad70 {S : wS} {n X Y L e : Nat} {x : Nat} {v4 v5 : Int} (h : S 7 e = (x : Int) - 1) : (uI (uI (uI (uI (uS S 7 (fR 0 X Y n (S 7) L)) 4 n v4) 5 n v5) 6 n 0) 1 4 (S 1 4 + 1)) 7 e = ((if 0 = 0 ∧ iru 0 X Y L e = true then n + 1 else x : Nat) : Int) - 1 := by
  show fR 0 X Y n (S 7) L e = _
  unfold fR
  cases hi : iru 0 X Y L e with
  | true => rw [if_pos ⟨rfl, rfl⟩, cond_true]; omega
  | false => rw [if_neg (fun h => by cases h.2), cond_false]; exact h
theorem ad80 {S : wS} {n X Y L e : Nat} {x : Nat} {v4 v5 : Int} (h : S 8 e = (x : Int) - 1) : (uI (uI (uI (uI (uS S 7 (fR 0 X Y n (S 7) L)) 4 n v4) 5 n v5) 6 n 0) 1 4 (S 1 4 + 1)) 8 e = ((if 1 = 0 ∧ iru 0 X Y L e = true then n + 1 else x : Nat) : Int) - 1 := by
  rw [if_neg (fun h => by cases h.1)]
  exact h
theorem ad71 {S : wS} {n X Y L e : Nat} {x : Nat} {v4 v5 : Int} (h : S 7 e = (x : Int) - 1) : (uI (uI (uI (uI (uS S 8 (fR 1 X Y n (S 8) L)) 4 n v4) 5 n v5) 6 n 1) 1 4 (S 1 4 + 1)) 7 e = ((if 0 = 1 ∧ iru 1 X Y L e = true then n + 1 else x : Nat) : Int) - 1 := by
  rw [if_neg (fun h => by cases h.1)]
  exact h
theorem ad81 {S : wS} {n X Y L e : Nat} {x : Nat} {v4 v5 : Int} (h : S 8 e = (x : Int) - 1) : (uI (uI (uI (uI (uS S 8 (fR 1 X Y n (S 8) L)) 4 n v4) 5 n v5) 6 n 1) 1 4 (S 1 4 + 1)) 8 e = ((if 1 = 1 ∧ iru 1 X Y L e = true then n + 1 else x : Nat) : Int) - 1 := by
  show fR 1 X Y n (S 8) L e = _
  unfold fR
  cases hi : iru 1 X Y L e with
  | true => rw [if_pos ⟨rfl, rfl⟩, cond_true]; omega
  | false => rw [if_neg (fun h => by cases h.2), cond_false]; exact h
theorem adS0_k {S : wS} {W H n X Y : Nat} {B : Nat → Nat} : kS S (adS0 S W H B n X Y) := by
  unfold adS0
  cases begs W H B 0 X Y with
  | false => exact kS_rf
  | true =>
    rw [cond_true]
    refine ⟨fun b hb => ?_, rfl, rfl⟩
    rw [uI_ne (by omega), uI_ne (by omega), uI_ne (by omega), uI_ne (by omega), uS_ne (by omega)]
theorem adS0_w {S : wS} {a : eRow} {W H X Y : Nat} {B : Nat → Nat} (h : wG1 S a) (hW : W < 7) (hH : H < 7) (h0 : a 0 = W) (h1 : a 1 = H) (hB : ∀ e, e < 36 → bl a e = B e) (hn : begs W H B 0 X Y = true → a 3 < 24) : wG1 (adS0 S W H B (a 3) X Y) (mkS 0 a X Y) := by
  unfold adS0 mkS
  rw [h0, h1, begs_cong hW hH hB, rlen_cong hW hH hB]
  cases hb : begs W H B 0 X Y with
  | false => exact h
  | true =>
    have hn2 := hn hb
    rw [cond_true, cond_true]
    generalize rlen W H B 0 X Y = L
    obtain ⟨⟨w0, w1, w3⟩, w4, w5⟩ := h
    have hnew := slS_new (a := a) (d := 0) (X := X) (Y := Y) (L := L)
    refine ⟨⟨?_, ?_, ?_⟩, fun e he => ⟨?_, ?_, ?_, ?_⟩, fun k hk => ?_⟩
    · rw [slS_lo (by omega) (by omega) (by omega)]; exact w0
    · rw [slS_lo (by omega) (by omega) (by omega)]; exact w1
    · rw [slS_3]
      show S 1 4 + 1 = _
      omega
    · rw [slS_lo (by omega) (by omega) (by omega)]; exact (w4 e he).1
    · rw [slS_lo (by omega) (by omega) (by omega)]; exact (w4 e he).2.1
    · have hm := slS_map (a := a) (d := 0) (X := X) (Y := Y) (L := L) (q := 0) (e := e) hn2 (by decide) (by decide) he
      rw [show base 0 + e = 244 + e from rfl] at hm
      rw [hm]
      exact ad70 (w4 e he).2.2.1
    · have hm := slS_map (a := a) (d := 0) (X := X) (Y := Y) (L := L) (q := 1) (e := e) hn2 (by decide) (by decide) he
      rw [show base 1 + e = 280 + e from rfl] at hm
      rw [hm]
      exact ad80 (w4 e he).2.2.2
    · rw [slS_3] at hk
      have e4 : (uI (uI (uI (uI (uS S 7 (fR 0 X Y (a 3) (S 7) L)) 4 (a 3) ((Y * 6 + X : Nat) : Int)) 5 (a 3) (L : Int)) 6 (a 3) 0) 1 4 (S 1 4 + 1)) 4 = eUp (S 4) (a 3) ((Y * 6 + X : Nat) : Int) := rfl
      have e5 : (uI (uI (uI (uI (uS S 7 (fR 0 X Y (a 3) (S 7) L)) 4 (a 3) ((Y * 6 + X : Nat) : Int)) 5 (a 3) (L : Int)) 6 (a 3) 0) 1 4 (S 1 4 + 1)) 5 = eUp (S 5) (a 3) (L : Int) := rfl
      have e6 : (uI (uI (uI (uI (uS S 7 (fR 0 X Y (a 3) (S 7) L)) 4 (a 3) ((Y * 6 + X : Nat) : Int)) 5 (a 3) (L : Int)) 6 (a 3) 0) 1 4 (S 1 4 + 1)) 6 = eUp (S 6) (a 3) 0 := rfl
      rw [e4, e5, e6]
      by_cases hkn : k = a 3
      · subst hkn
        rw [hnew.1, hnew.2.1, hnew.2.2.1, hnew.2.2.2, eUp_at, eUp_at, eUp_at]
        exact ⟨rfl, rfl, rfl⟩
      · obtain ⟨o1, o2, o3, o4⟩ := slS_old (d := 0) (X := X) (Y := Y) (L := L) hn2 (show k < a 3 by omega)
        rw [o1, o2, o3, o4, eUp_ne hkn, eUp_ne hkn, eUp_ne hkn]
        exact w5 k (by omega)
theorem adS1_k {S : wS} {W H n X Y : Nat} {B : Nat → Nat} : kS S (adS1 S W H B n X Y) := by
  unfold adS1
  cases begs W H B 1 X Y with
  | false => exact kS_rf
  | true =>
    rw [cond_true]
    refine ⟨fun b hb => ?_, rfl, rfl⟩
    rw [uI_ne (by omega), uI_ne (by omega), uI_ne (by omega), uI_ne (by omega), uS_ne (by omega)]
theorem adS1_w {S : wS} {a : eRow} {W H X Y : Nat} {B : Nat → Nat} (h : wG1 S a) (hW : W < 7) (hH : H < 7) (h0 : a 0 = W) (h1 : a 1 = H) (hB : ∀ e, e < 36 → bl a e = B e) (hn : begs W H B 1 X Y = true → a 3 < 24) : wG1 (adS1 S W H B (a 3) X Y) (mkS 1 a X Y) := by
  unfold adS1 mkS
  rw [h0, h1, begs_cong hW hH hB, rlen_cong hW hH hB]
  cases hb : begs W H B 1 X Y with
  | false => exact h
  | true =>
    have hn2 := hn hb
    rw [cond_true, cond_true]
    generalize rlen W H B 1 X Y = L
    obtain ⟨⟨w0, w1, w3⟩, w4, w5⟩ := h
    have hnew := slS_new (a := a) (d := 1) (X := X) (Y := Y) (L := L)
    refine ⟨⟨?_, ?_, ?_⟩, fun e he => ⟨?_, ?_, ?_, ?_⟩, fun k hk => ?_⟩
    · rw [slS_lo (by omega) (by omega) (by omega)]; exact w0
    · rw [slS_lo (by omega) (by omega) (by omega)]; exact w1
    · rw [slS_3]
      show S 1 4 + 1 = _
      omega
    · rw [slS_lo (by omega) (by omega) (by omega)]; exact (w4 e he).1
    · rw [slS_lo (by omega) (by omega) (by omega)]; exact (w4 e he).2.1
    · have hm := slS_map (a := a) (d := 1) (X := X) (Y := Y) (L := L) (q := 0) (e := e) hn2 (by decide) (by decide) he
      rw [show base 0 + e = 244 + e from rfl] at hm
      rw [hm]
      exact ad71 (w4 e he).2.2.1
    · have hm := slS_map (a := a) (d := 1) (X := X) (Y := Y) (L := L) (q := 1) (e := e) hn2 (by decide) (by decide) he
      rw [show base 1 + e = 280 + e from rfl] at hm
      rw [hm]
      exact ad81 (w4 e he).2.2.2
    · rw [slS_3] at hk
      have e4 : (uI (uI (uI (uI (uS S 8 (fR 1 X Y (a 3) (S 8) L)) 4 (a 3) ((Y * 6 + X : Nat) : Int)) 5 (a 3) (L : Int)) 6 (a 3) 1) 1 4 (S 1 4 + 1)) 4 = eUp (S 4) (a 3) ((Y * 6 + X : Nat) : Int) := rfl
      have e5 : (uI (uI (uI (uI (uS S 8 (fR 1 X Y (a 3) (S 8) L)) 4 (a 3) ((Y * 6 + X : Nat) : Int)) 5 (a 3) (L : Int)) 6 (a 3) 1) 1 4 (S 1 4 + 1)) 5 = eUp (S 5) (a 3) (L : Int) := rfl
      have e6 : (uI (uI (uI (uI (uS S 8 (fR 1 X Y (a 3) (S 8) L)) 4 (a 3) ((Y * 6 + X : Nat) : Int)) 5 (a 3) (L : Int)) 6 (a 3) 1) 1 4 (S 1 4 + 1)) 6 = eUp (S 6) (a 3) 1 := rfl
      rw [e4, e5, e6]
      by_cases hkn : k = a 3
      · subst hkn
        rw [hnew.1, hnew.2.1, hnew.2.2.1, hnew.2.2.2, eUp_at, eUp_at, eUp_at]
        exact ⟨rfl, rfl, rfl⟩
      · obtain ⟨o1, o2, o3, o4⟩ := slS_old (d := 1) (X := X) (Y := Y) (L := L) hn2 (show k < a 3 by omega)
        rw [o1, o2, o3, o4, eUp_ne hkn, eUp_ne hkn, eUp_ne hkn]
        exact w5 k (by omega)
/-- what a slot's crossings are told, p of them -/
def xF (f : Nat → Int) (old : Nat → Int) (k p : Nat) : Nat → Int := fun i => if k * 6 ≤ i ∧ i < k * 6 + p then f (i - k * 6) else old i
theorem xF_0 {f old : Nat → Int} {k : Nat} : xF f old k 0 = old := by funext i; unfold xF; rw [if_neg (by omega)]
theorem xF_step {f old : Nat → Int} {k p : Nat} : eUp (xF f old k p) (k * 6 + p) (f p) = xF f old k (p + 1) := by
  funext i
  unfold eUp xF
  by_cases hi : i = k * 6 + p
  · rw [if_pos hi, if_pos (by omega), hi, Nat.add_sub_cancel_left]
  · rw [if_neg hi]
    by_cases h : k * 6 ≤ i ∧ i < k * 6 + p
    · rw [if_pos h, if_pos (by omega)]
    · rw [if_neg h, if_neg (by omega)]
def fcS (S : wS) (a : eRow) (k p : Nat) : wS := uS (uS S 9 (xF (fun p => (oth a k p : Int) - 1) (S 9) k p)) 10 (xF (opl a k) (S 10) k p)
set_option maxRecDepth 100000
theorem c_findCrossings {S : wS} {c : Nat × Nat} {a : eRow} {x : Int} {k : Nat} (hw : wG1 S a) (hG : iG a) (hx : x = (k : Int)) (hk : k < a 3) : ev m_G_findCrossings 0 [some (eR 1), some (eI x)] [] (wC S, c) = some (.inl none, (wC (fcS S a k (sl a k)), c)) := by
  have hn := hG.1.2.2.2.2
  obtain ⟨h1, h2, h3, h4, h5, h6, h7⟩ := sl_at hG hk
  obtain ⟨w1, w2, w3⟩ := hw.2.2 k hk
  have hfirst : ∀ p : Nat, p < sl a k → S 4 k + (p : Int) * ((strd (sd a k) : Nat) : Int) = ((cel a k p : Nat) : Int) := fun p hp => by
    rw [w1]
    unfold strd
    rcases Nat.lt_or_ge (sd a k) 1 with hd | hd
    · rw [if_pos (by omega), cel_0 (by omega)]; omega
    · rw [if_neg (by omega), cel_1 (by omega)]; omega
  have hl : ∀ p : Nat, p ≤ sl a k → ∀ y : Int, y = (p : Int) → ev m_G_findCrossings 2 [some (eR 1), some (eI x), some (eI y)] [] (wC (fcS S a k p), c) = some (.inl none, (wC (fcS S a k (sl a k)), c)) := by
    refine loop_up ?_ ?_
    · intro y hy
      generalize hT : fcS S a k (sl a k) = T
      have t5 : T 5 k = (sl a k : Int) := by rw [← hT]; exact w2
      refine xLd (N := 5) (n := 24) (i := x) (F := fun zq => ev m_G_findCrossings 9 [some (eR 1), some (eI x), some (eI y)] [eI (T 5 zq), eI y] (wC T, c)) (k := k) rfl (wr_nat (by omega) (by omega)) (by omega) ?_
      refine xLtF (N := 1) (x := y) (y := T 5 k) (A := ev m_G_findCrossings 12 [some (eR 1), some (eI x), some (eI y)] [] (wC T, c)) (B := ev m_G_findCrossings 106 [some (eR 1), some (eI x), some (eI y)] [] (wC T, c)) rfl (wr_id (by omega) (by omega)) (wr_id (by omega) (by omega)) (by omega) ?_
      refine xSeg (N := 1) (r := some (.inl none, (wC T, c))) rfl ?_
      rfl
    · intro p hp ih y hy
      have hc := cel_lt hG hk hp
      have hol := oth_le hG hk hp
      have hwc := hw.2.1 (cel a k p) hc
      have hnx : ∀ v u : Int, v = (oth a k p : Int) - 1 → u = opl a k p → uI (uI (fcS S a k p) 9 (k * 6 + p) v) 10 (k * 6 + p) u = fcS S a k (p + 1) := fun v u hv hu => by
        unfold fcS
        rw [hv, hu, uI_sw rfl, uI_uS, xF_step (f := fun p => (oth a k p : Int) - 1), xF_step]
      generalize hT : fcS S a k p = T at hnx
      have t4 : T 4 k = S 4 k := by rw [← hT]; rfl
      have t5 : T 5 k = (sl a k : Int) := by rw [← hT]; exact w2
      have t6 : T 6 k = (sd a k : Int) := by rw [← hT]; exact w3
      have t7 : T 7 (cel a k p) = (a (244 + cel a k p) : Int) - 1 := by rw [← hT]; exact hwc.2.2.1
      have t8 : T 8 (cel a k p) = (a (280 + cel a k p) : Int) - 1 := by rw [← hT]; exact hwc.2.2.2
      have hf := hfirst p hp
      have t4o : ∀ j, T 4 j = S 4 j := fun j => by rw [← hT]; rfl
      have t6o : ∀ j, T 6 j = S 6 j := fun j => by rw [← hT]; rfl
      have hR : ∀ (q z : Int), z = ((cel a k p : Nat) : Int) → q = (oth a k p : Int) - 1 → ev m_G_findCrossings 51 [some (eR 1), some (eI x), some (eI y), some (eI z)] [eI q] (wC T, c) = some (.inl none, (wC (fcS S a k (sl a k)), c)) := by
        intro q z hz hq
        by_cases ho : oth a k p = 0
        · refine xLd (N := 12) (n := 144) (i := (x * 6) + y) (F := fun zq => ev m_G_findCrossings 70 [some (eR 1), some (eI x), some (eI y), some (eI z), some (eI q), some (eI ((x * 6) + y))] [] (wC (uI T 9 zq q), c)) (k := (k * 6) + p) rfl (wr_nat (by omega) (by omega)) (by omega) ?_
          refine xEqT (N := 6) (x := q) (y := (-1)) (A := ev m_G_findCrossings 82 [some (eR 1), some (eI x), some (eI y), some (eI z), some (eI q), some (eI ((x * 6) + y))] [eI ((x * 6) + y), eR 10] (wC (uI T 9 ((k * 6) + p) q), c)) (B := ev m_G_findCrossings 86 [some (eR 1), some (eI x), some (eI y), some (eI z), some (eI q), some (eI ((x * 6) + y))] [eI ((x * 6) + y), eR 10] (wC (uI T 9 ((k * 6) + p) q), c)) rfl (wr_id (by omega) (by omega)) (show wr (-1) = (-1) by decide) (by omega) ?_
          refine xLd (N := 3) (n := 144) (i := (x * 6) + y) (F := fun zq => ev m_G_findCrossings 100 [some (eR 1), some (eI x), some (eI y), some (eI z), some (eI q), some (eI ((x * 6) + y))] [] (wC (uI (uI T 9 ((k * 6) + p) q) 10 zq (-1)), c)) (k := (k * 6) + p) rfl (wr_nat (by omega) (by omega)) (by omega) ?_
          refine xSeg (N := 2) (r := ev m_G_findCrossings 2 [some (eR 1), some (eI x), some (eI (y + 1)), some (eI z), some (eI q), some (eI ((x * 6) + y))] [] (wC (uI (uI T 9 ((k * 6) + p) q) 10 ((k * 6) + p) (-1)), c)) rfl ?_
          refine xTk 3 (by rfl) rfl ?_
          rw [hnx _ _ hq (by unfold opl; rw [if_pos ho])]
          exact ih _ (by omega)
        · obtain ⟨c1, c2, c3, c4, c5, c6⟩ := cross hG hk hp ho
          obtain ⟨j1, j2, j3⟩ := hw.2.2 _ c1
          obtain ⟨i1, i2, i3, i4, i5, i6, i7⟩ := sl_at hG c1
          have hpl : (cel a k p - (sy a (oth a k p - 1) * 6 + sx a (oth a k p - 1))) / strd (sd a (oth a k p - 1)) = plc a k p ∧ sy a (oth a k p - 1) * 6 + sx a (oth a k p - 1) ≤ cel a k p := by
            unfold strd
            rcases Nat.lt_or_ge (sd a (oth a k p - 1)) 1 with hd | hd
            · rw [cel_0 (by omega)] at c4
              rw [if_pos (by omega), Nat.div_one]
              omega
            · rw [cel_1 (by omega)] at c4
              rw [if_neg (by omega)]
              omega
          refine xLd (N := 12) (n := 144) (i := (x * 6) + y) (F := fun zq => ev m_G_findCrossings 70 [some (eR 1), some (eI x), some (eI y), some (eI z), some (eI q), some (eI ((x * 6) + y))] [] (wC (uI T 9 zq q), c)) (k := (k * 6) + p) rfl (wr_nat (by omega) (by omega)) (by omega) ?_
          refine xEqF (N := 6) (x := q) (y := (-1)) (A := ev m_G_findCrossings 82 [some (eR 1), some (eI x), some (eI y), some (eI z), some (eI q), some (eI ((x * 6) + y))] [eI ((x * 6) + y), eR 10] (wC (uI T 9 ((k * 6) + p) q), c)) (B := ev m_G_findCrossings 86 [some (eR 1), some (eI x), some (eI y), some (eI z), some (eI q), some (eI ((x * 6) + y))] [eI ((x * 6) + y), eR 10] (wC (uI T 9 ((k * 6) + p) q), c)) rfl (wr_id (by omega) (by omega)) (show wr (-1) = (-1) by decide) (by omega) ?_
          refine xCallWI (N := 7) (v := ((plc a k p : Nat) : Int)) (M2 := m_G_findCrossings) (pc2 := 95) (ls2 := [some (eR 1), some (eI x), some (eI y), some (eI z), some (eI q), some (eI ((x * 6) + y))]) (st2 := [eI (q * 6), eI ((x * 6) + y), eR 10]) (y := m_G_placeIn) (as := [some (eR 1), some (eI q), some (eI z)]) (w2 := (wC (uI T 9 ((k * 6) + p) q), c)) rfl (by have h9 := c_placeIn (S := uI T 9 (k * 6 + p) q) (c := c) (x := q) (y := z) (k := oth a k p - 1) (d := sd a (oth a k p - 1)) (f := sy a (oth a k p - 1) * 6 + sx a (oth a k p - 1)) (e := cel a k p) (by omega) hz (by omega) ((t6o _).trans j3) i1 ((t4o _).trans j1) hpl.2 hc; rw [hpl.1] at h9; exact h9) (fun r95 hr95 => ?_)
          refine xLd (N := 2) (n := 144) (i := (x * 6) + y) (F := fun zq => ev m_G_findCrossings 100 [some (eR 1), some (eI x), some (eI y), some (eI z), some (eI q), some (eI ((x * 6) + y))] [] (wC (uI (uI T 9 ((k * 6) + p) q) 10 zq ((q * 6) + r95)), c)) (k := (k * 6) + p) rfl (wr_nat (by omega) (by omega)) (by omega) ?_
          refine xSeg (N := 2) (r := ev m_G_findCrossings 2 [some (eR 1), some (eI x), some (eI (y + 1)), some (eI z), some (eI q), some (eI ((x * 6) + y))] [] (wC (uI (uI T 9 ((k * 6) + p) q) 10 ((k * 6) + p) ((q * 6) + r95)), c)) rfl ?_
          refine xTk 3 (by rfl) rfl ?_
          rw [hnx _ _ hq (by unfold opl; rw [if_neg ho]; omega)]
          exact ih _ (by omega)
      refine xLd (N := 5) (n := 24) (i := x) (F := fun zq => ev m_G_findCrossings 9 [some (eR 1), some (eI x), some (eI y)] [eI (T 5 zq), eI y] (wC T, c)) (k := k) rfl (wr_nat (by omega) (by omega)) (by omega) ?_
      refine xLtT (N := 1) (x := y) (y := T 5 k) (A := ev m_G_findCrossings 12 [some (eR 1), some (eI x), some (eI y)] [] (wC T, c)) (B := ev m_G_findCrossings 106 [some (eR 1), some (eI x), some (eI y)] [] (wC T, c)) rfl (wr_id (by omega) (by omega)) (wr_id (by omega) (by omega)) (by omega) ?_
      refine xLd (N := 4) (n := 24) (i := x) (F := fun zq => ev m_G_findCrossings 18 [some (eR 1), some (eI x), some (eI y)] [eI (T 4 zq)] (wC T, c)) (k := k) rfl (wr_nat (by omega) (by omega)) (by omega) ?_
      refine xCallI (N := 4) (v := ((strd (sd a k) : Nat) : Int)) (M2 := m_G_findCrossings) (pc2 := 21) (ls2 := [some (eR 1), some (eI x), some (eI y)]) (st2 := [eI y, eI (T 4 k)]) (y := m_G_stride) (as := [some (eR 1), some (eI x)]) (w2 := (wC T, c)) rfl (c_stride hx (by omega) t6 h1) (fun r21 hr21 => ?_)
      refine xTop (N := 2) (pc2 := 26) (ls2 := [some (eR 1), some (eI x), some (eI y)]) (a := (T 4 k) + (y * r21)) (b := ((cel a k p : Nat) : Int)) (st2 := []) (w2 := (wC T, c)) rfl (by rw [t4, hr21, hy]; exact hf) (fun z hz => ?_)
      refine xLd (N := 5) (n := 24) (i := x) (F := fun zq => ev m_G_findCrossings 33 [some (eR 1), some (eI x), some (eI y), some (eI z)] [eI (T 6 zq)] (wC T, c)) (k := k) rfl (wr_nat (by omega) (by omega)) (by omega) ?_
      refine xEq (N := 1) (x := T 6 k) (y := 0) (A := ev m_G_findCrossings 45 [some (eR 1), some (eI x), some (eI y), some (eI z)] [] (wC T, c)) (B := ev m_G_findCrossings 36 [some (eR 1), some (eI x), some (eI y), some (eI z)] [] (wC T, c)) rfl (wr_id (by omega) (by omega)) (show wr 0 = 0 by decide) (fun h33 => ?_) (fun h33 => ?_)
      · refine xLd (N := 4) (n := 36) (i := z) (F := fun zq => ev m_G_findCrossings 51 [some (eR 1), some (eI x), some (eI y), some (eI z)] [eI (T 8 zq)] (wC T, c)) (k := cel a k p) rfl (wr_nat (by omega) (by omega)) (by omega) ?_
        first | exact hR _ _ hz (by rw [t7]; unfold oth; rw [if_pos (by omega)]) | exact hR _ _ hz (by rw [t8]; unfold oth; rw [if_neg (by omega)])
      · refine xLd (N := 4) (n := 36) (i := z) (F := fun zq => ev m_G_findCrossings 42 [some (eR 1), some (eI x), some (eI y), some (eI z)] [eI (T 7 zq)] (wC T, c)) (k := cel a k p) rfl (wr_nat (by omega) (by omega)) (by omega) ?_
        refine xSeg (N := 1) (r := ev m_G_findCrossings 51 [some (eR 1), some (eI x), some (eI y), some (eI z)] [eI (T 7 (cel a k p))] (wC T, c)) rfl ?_
        first | exact hR _ _ hz (by rw [t7]; unfold oth; rw [if_pos (by omega)]) | exact hR _ _ hz (by rw [t8]; unfold oth; rw [if_neg (by omega)])
  have h0 := hl 0 (Nat.zero_le _) 0 rfl
  rw [show fcS S a k 0 = S by unfold fcS; rw [xF_0, xF_0, uS_self]; exact uS_self (S := S)] at h0
  refine xSeg (N := 2) (r := ev m_G_findCrossings 2 [some (eR 1), some (eI x), some (eI 0)] [] (wC S, c)) rfl ?_
  exact h0
