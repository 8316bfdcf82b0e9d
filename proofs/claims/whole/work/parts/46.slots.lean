/-! The class's grid: the slots are found. -/
theorem c_isOpen2 {S : wS} {c : Nat × Nat} {x y x' y' : Int} {W H : Nat} {B : Nat → Nat} (g0 : S 1 0 = (W : Int)) (g1 : S 1 1 = (H : Int)) (gW : W < 7) (gH : H < 7) (gB : ∀ k, k < 36 → S 2 k = (B k : Int) ∧ B k ≤ 1) (hx : x = x') (hy : y = y') (bx : -2147483648 ≤ x' ∧ x' < 2147483648) (by_ : -2147483648 ≤ y' ∧ y' < 2147483648) : ev m_G_isOpen 0 [some (eR 1), some (eI x), some (eI y)] [] (wC S, c) = some (.inl (some (eI (bI (opn W H B x' y')))), (wC S, c)) := by
  subst hx
  subst hy
  exact c_isOpen g0 g1 gW gH gB bx by_
/-- a slot begins at the cell: across (d = 0) or down (d = 1) -/
def begs (W H : Nat) (B : Nat → Nat) (d X Y : Nat) : Bool := opn W H B (X : Int) (Y : Int) && (!opn W H B ((X : Int) - ((1 - d : Nat) : Int)) ((Y : Int) - (d : Int)) && opn W H B ((X : Int) + ((1 - d : Nat) : Int)) ((Y : Int) + (d : Int)))
def runq (W H : Nat) (B : Nat → Nat) (d X Y p : Nat) : Bool := opn W H B ((X + p * (1 - d) : Nat) : Int) ((Y + p * d : Nat) : Int)
def rnl (q : Nat → Bool) : Nat → Nat → Nat
  | 0, p => p
  | k + 1, p => bif q p then rnl q k (p + 1) else p
def rlen (W H : Nat) (B : Nat → Nat) (d X Y : Nat) : Nat := rnl (runq W H B d X Y) 6 0
theorem rnl_spec {q : Nat → Bool} : ∀ {k p : Nat}, p ≤ rnl q k p ∧ rnl q k p ≤ p + k ∧ (∀ i, p ≤ i → i < rnl q k p → q i = true) ∧ (rnl q k p < p + k → q (rnl q k p) = false)
  | 0, p => ⟨Nat.le_refl _, by show p ≤ p + 0; omega, fun i h1 h2 => absurd (show i < p from h2) (by omega), fun h => absurd (show p < p + 0 from h) (by omega)⟩
  | k + 1, p => by
    show p ≤ (bif q p then rnl q k (p + 1) else p) ∧ _
    cases h : q p with
    | true =>
      obtain ⟨h1, h2, h3, h4⟩ := rnl_spec (q := q) (k := k) (p := p + 1)
      have he : rnl q (k + 1) p = rnl q k (p + 1) := by show (bif q p then rnl q k (p + 1) else p) = _; rw [h]; rfl
      rw [he]
      refine ⟨?_, by omega, fun i g1 g2 => ?_, fun g => h4 (by omega)⟩
      · rw [cond_true]; omega
      · by_cases hi : i = p
        · subst hi; exact h
        · exact h3 i (by omega) g2
    | false =>
      have he : rnl q (k + 1) p = p := by show (bif q p then rnl q k (p + 1) else p) = _; rw [h]; rfl
      rw [he]
      exact ⟨Nat.le_refl _, by omega, fun i g1 g2 => absurd g2 (by omega), fun _ => h⟩
theorem opn_in {W H : Nat} {B : Nat → Nat} {x y : Int} (h : opn W H B x y = true) : 0 ≤ x ∧ x < (W : Int) ∧ 0 ≤ y ∧ y < (H : Int) := by
  unfold opn at h
  simp only [Bool.and_eq_true] at h
  exact inG_iff.mp h.1
theorem rlen_spec {W H : Nat} {B : Nat → Nat} {d X Y : Nat} (hW : W < 7) (hH : H < 7) (hd : d ≤ 1) : rlen W H B d X Y ≤ 6 ∧ (∀ p, p < rlen W H B d X Y → runq W H B d X Y p = true) ∧ runq W H B d X Y (rlen W H B d X Y) = false := by
  obtain ⟨h1, h2, h3, h4⟩ := rnl_spec (q := runq W H B d X Y) (k := 6) (p := 0)
  refine ⟨by unfold rlen; omega, fun p hp => h3 p (by omega) hp, ?_⟩
  rcases Nat.lt_or_ge (rlen W H B d X Y) 6 with h | h
  · exact h4 (by unfold rlen at h; omega)
  · cases hr : runq W H B d X Y (rlen W H B d X Y) with
    | false => rfl
    | true =>
      have h5 := opn_in hr
      have h6 : rlen W H B d X Y = 6 := by unfold rlen at h ⊢; omega
      rw [h6] at h5
      rcases Nat.lt_or_ge d 1 with hd0 | hd0
      · rw [show d = 0 by omega] at h5; omega
      · rw [show d = 1 by omega] at h5; omega
/-- the cells of the run -/
def iru (d X Y p e : Nat) : Bool := if d = 1 then decide (e % 6 = X ∧ Y ≤ e / 6 ∧ e / 6 < Y + p) else decide (e / 6 = Y ∧ X ≤ e % 6 ∧ e % 6 < X + p)
def fR (d X Y n : Nat) (old : Nat → Int) (p : Nat) : Nat → Int := fun e => bif iru d X Y p e then (n : Int) else old e
theorem fR_0 {d X Y n : Nat} {old : Nat → Int} : fR d X Y n old 0 = old := by
  funext e
  have h : iru d X Y 0 e = false := by unfold iru; split <;> exact decide_eq_false (by omega)
  unfold fR
  rw [h]
  rfl
theorem fR_step {d X Y n p : Nat} {old : Nat → Int} (hd : d ≤ 1) (h6 : X + p * (1 - d) < 6) : eUp (fR d X Y n old p) ((Y + p * d) * 6 + (X + p * (1 - d))) (n : Int) = fR d X Y n old (p + 1) := by
  funext e
  unfold eUp fR
  rcases Nat.lt_or_ge d 1 with hd0 | hd0
  · obtain rfl : d = 0 := by omega
    simp only [Nat.mul_zero, Nat.add_zero, Nat.sub_zero, Nat.mul_one] at h6 ⊢
    have hi : ∀ q, iru 0 X Y q e = decide (e / 6 = Y ∧ X ≤ e % 6 ∧ e % 6 < X + q) := fun q => rfl
    rw [hi, hi]
    by_cases he : e = Y * 6 + (X + p)
    · rw [if_pos he, decide_eq_true (by omega), cond_true]
    · rw [if_neg he]
      by_cases h : e / 6 = Y ∧ X ≤ e % 6 ∧ e % 6 < X + p
      · rw [decide_eq_true h, decide_eq_true (by omega)]
      · rw [decide_eq_false h, decide_eq_false (by omega)]
  · obtain rfl : d = 1 := by omega
    simp only [Nat.mul_one, Nat.sub_self, Nat.mul_zero, Nat.add_zero] at h6 ⊢
    have hi : ∀ q, iru 1 X Y q e = decide (e % 6 = X ∧ Y ≤ e / 6 ∧ e / 6 < Y + q) := fun q => rfl
    rw [hi, hi]
    by_cases he : e = (Y + p) * 6 + X
    · rw [if_pos he, decide_eq_true (by omega), cond_true]
    · rw [if_neg he]
      by_cases h : e % 6 = X ∧ Y ≤ e / 6 ∧ e / 6 < Y + p
      · rw [decide_eq_true h, decide_eq_true (by omega)]
      · rw [decide_eq_false h, decide_eq_false (by omega)]
set_option maxRecDepth 100000
/-- the slot is added -/
def adS0 (S : wS) (W H : Nat) (B : Nat → Nat) (n X Y : Nat) : wS := bif begs W H B 0 X Y then uI (uI (uI (uI (uS S 7 (fR 0 X Y n (S 7) (rlen W H B 0 X Y))) 4 n ((Y * 6 + X : Nat) : Int)) 5 n (rlen W H B 0 X Y : Int)) 6 n 0) 1 4 (S 1 4 + 1) else S
theorem c_addSlot0 {S : wS} {c : Nat × Nat} {x y : Int} {W H n X Y : Nat} {B : Nat → Nat} (g0 : S 1 0 = (W : Int)) (g1 : S 1 1 = (H : Int)) (gW : W < 7) (gH : H < 7) (gB : ∀ k, k < 36 → S 2 k = (B k : Int) ∧ B k ≤ 1) (gn : S 1 4 = (n : Int)) (hn : begs W H B 0 X Y = true → n < 24) (hx : x = (X : Int)) (hy : y = (Y : Int)) (hX : X < 6) (hY : Y < 6) : ev m_G_addSlot 0 [some (eR 1), some (eI x), some (eI y), some (eI 0)] [] (wC S, c) = some (.inl none, (wC (adS0 S W H B n X Y), c)) := by
  obtain ⟨r1, r2, r3⟩ := rlen_spec (B := B) (d := 0) (X := X) (Y := Y) gW gH (by decide)
  unfold adS0
  have hl : begs W H B 0 X Y = true → ∀ p : Nat, p ≤ rlen W H B 0 X Y → ∀ z : Int, z = (p : Int) → ev m_G_addSlot 86 [some (eR 1), some (eI x), some (eI y), some (eI 0), some (eI 1), some (eI 0), some (eI 1), some (eI z)] [] (wC (uS S 7 (fR 0 X Y n (S 7) p)), c) = some (.inl none, (wC (uI (uI (uI (uI (uS S 7 (fR 0 X Y n (S 7) (rlen W H B 0 X Y))) 4 n ((Y * 6 + X : Nat) : Int)) 5 n (rlen W H B 0 X Y : Int)) 6 n 0) 1 4 (S 1 4 + 1)), c)) := by
    intro hbg
    have hn24 := hn hbg
    generalize hL : rlen W H B 0 X Y = L at r1 r2 r3
    refine loop_up ?_ ?_
    · intro z hz
      have hend : ∀ (z2 : Int), ev m_G_addSlot 168 [some (eR 1), some (eI x), some (eI y), some (eI 0), some (eI 1), some (eI 0), some (eI 1), some (eI z)] [] (wC (uS S 7 (fR 0 X Y n (S 7) L)), c) = some (.inl none, (wC (uI (uI (uI (uI (uS S 7 (fR 0 X Y n (S 7) L)) 4 n ((Y * 6 + X : Nat) : Int)) 5 n (L : Int)) 6 n 0) 1 4 (S 1 4 + 1)), c)) := by
        intro z2
        refine xCallI (N := 7) (v := y * 6 + x) (M2 := m_G_addSlot) (pc2 := 178) (ls2 := [some (eR 1), some (eI x), some (eI y), some (eI 0), some (eI 1), some (eI 0), some (eI 1), some (eI z)]) (st2 := [eI (S 1 4), eR 4]) (y := m_G_cell) (as := [some (eI x), some (eI y)]) (w2 := (wC (uS S 7 (fR 0 X Y n (S 7) L)), c)) rfl c_cell (fun r178 hr178 => ?_)
        refine xLd (N := 1) (n := 24) (i := S 1 4) (F := fun zq => ev m_G_addSlot 182 [some (eR 1), some (eI x), some (eI y), some (eI 0), some (eI 1), some (eI 0), some (eI 1), some (eI z)] [] (wC (uI (uS S 7 (fR 0 X Y n (S 7) L)) 4 zq r178), c)) (k := n) rfl (wr_nat (by omega) (by omega)) (by omega) ?_
        refine xLd (N := 6) (n := 24) (i := S 1 4) (F := fun zq => ev m_G_addSlot 193 [some (eR 1), some (eI x), some (eI y), some (eI 0), some (eI 1), some (eI 0), some (eI 1), some (eI z)] [] (wC (uI (uI (uS S 7 (fR 0 X Y n (S 7) L)) 4 n r178) 5 zq z), c)) (k := n) rfl (wr_nat (by omega) (by omega)) (by omega) ?_
        refine xLd (N := 6) (n := 24) (i := S 1 4) (F := fun zq => ev m_G_addSlot 203 [some (eR 1), some (eI x), some (eI y), some (eI 0), some (eI 1), some (eI 0), some (eI 1), some (eI z)] [] (wC (uI (uI (uI (uS S 7 (fR 0 X Y n (S 7) L)) 4 n r178) 5 n z) 6 zq 0), c)) (k := n) rfl (wr_nat (by omega) (by omega)) (by omega) ?_
        refine xSeg (N := 7) (r := some (.inl none, (wC (uI (uI (uI (uI (uS S 7 (fR 0 X Y n (S 7) L)) 4 n r178) 5 n z) 6 n 0) 1 4 ((S 1 4) + 1)), c))) rfl ?_
        rw [hr178, hz, show y * 6 + x = ((Y * 6 + X : Nat) : Int) by omega]
      by_cases h6 : 6 ≤ L
      · refine xLtF (N := 3) (x := z) (y := 6) (A := ev m_G_addSlot 93 [some (eR 1), some (eI x), some (eI y), some (eI 0), some (eI 1), some (eI 0), some (eI 1), some (eI z)] [] (wC (uS S 7 (fR 0 X Y n (S 7) L)), c)) (B := ev m_G_addSlot 168 [some (eR 1), some (eI x), some (eI y), some (eI 0), some (eI 1), some (eI 0), some (eI 1), some (eI z)] [] (wC (uS S 7 (fR 0 X Y n (S 7) L)), c)) rfl (wr_id (by omega) (by omega)) (show wr 6 = 6 by decide) (by omega) ?_
        exact hend 0
      · refine xLtT (N := 3) (x := z) (y := 6) (A := ev m_G_addSlot 93 [some (eR 1), some (eI x), some (eI y), some (eI 0), some (eI 1), some (eI 0), some (eI 1), some (eI z)] [] (wC (uS S 7 (fR 0 X Y n (S 7) L)), c)) (B := ev m_G_addSlot 168 [some (eR 1), some (eI x), some (eI y), some (eI 0), some (eI 1), some (eI 0), some (eI 1), some (eI z)] [] (wC (uS S 7 (fR 0 X Y n (S 7) L)), c)) rfl (wr_id (by omega) (by omega)) (show wr 6 = 6 by decide) (by omega) ?_
        refine xCallWI (N := 12) (v := bI (runq W H B 0 X Y L)) (M2 := m_G_addSlot) (pc2 := 108) (ls2 := [some (eR 1), some (eI x), some (eI y), some (eI 0), some (eI 1), some (eI 0), some (eI 1), some (eI z)]) (st2 := []) (y := m_G_isOpen) (as := [some (eR 1), some (eI (x + (z * 1))), some (eI (y + (z * 0)))]) (w2 := (wC (uS S 7 (fR 0 X Y n (S 7) L)), c)) rfl (c_isOpen2 (S := uS S 7 (fR 0 X Y n (S 7) L)) (x' := ((X + L * (1 - 0) : Nat) : Int)) (y' := ((Y + L * 0 : Nat) : Int)) g0 g1 gW gH gB (by omega) (by omega) (by omega) (by omega)) (fun r108 hr108 => ?_)
        have hq := bI_1 hr108
        have hq0 := hq.2.2.mpr r3
        refine xEqT (N := 1) (x := r108) (y := 0) (A := ev m_G_addSlot 168 [some (eR 1), some (eI x), some (eI y), some (eI 0), some (eI 1), some (eI 0), some (eI 1), some (eI z)] [] (wC (uS S 7 (fR 0 X Y n (S 7) L)), c)) (B := ev m_G_addSlot 114 [some (eR 1), some (eI x), some (eI y), some (eI 0), some (eI 1), some (eI 0), some (eI 1), some (eI z)] [] (wC (uS S 7 (fR 0 X Y n (S 7) L)), c)) rfl (wr_id (by omega) (by omega)) (show wr 0 = 0 by decide) (by omega) ?_
        exact hend 0
    · intro p hp ih z hz
      have hrq := r2 p hp
      have hin := opn_in hrq
      have hst : uI (uS S 7 (fR 0 X Y n (S 7) p)) 7 ((Y + p * 0) * 6 + (X + p * (1 - 0))) (S 1 4) = uS S 7 (fR 0 X Y n (S 7) (p + 1)) := by rw [uI_uS, gn, fR_step (by decide) (by omega)]
      refine xLtT (N := 3) (x := z) (y := 6) (A := ev m_G_addSlot 93 [some (eR 1), some (eI x), some (eI y), some (eI 0), some (eI 1), some (eI 0), some (eI 1), some (eI z)] [] (wC (uS S 7 (fR 0 X Y n (S 7) p)), c)) (B := ev m_G_addSlot 168 [some (eR 1), some (eI x), some (eI y), some (eI 0), some (eI 1), some (eI 0), some (eI 1), some (eI z)] [] (wC (uS S 7 (fR 0 X Y n (S 7) p)), c)) rfl (wr_id (by omega) (by omega)) (show wr 6 = 6 by decide) (by omega) ?_
      refine xCallWI (N := 12) (v := bI (runq W H B 0 X Y p)) (M2 := m_G_addSlot) (pc2 := 108) (ls2 := [some (eR 1), some (eI x), some (eI y), some (eI 0), some (eI 1), some (eI 0), some (eI 1), some (eI z)]) (st2 := []) (y := m_G_isOpen) (as := [some (eR 1), some (eI (x + (z * 1))), some (eI (y + (z * 0)))]) (w2 := (wC (uS S 7 (fR 0 X Y n (S 7) p)), c)) rfl (c_isOpen2 (S := uS S 7 (fR 0 X Y n (S 7) p)) (x' := ((X + p * (1 - 0) : Nat) : Int)) (y' := ((Y + p * 0 : Nat) : Int)) g0 g1 gW gH gB (by omega) (by omega) (by omega) (by omega)) (fun r108 hr108 => ?_)
      have hq := bI_1 hr108
      have hq1 := hq.2.1.mpr hrq
      refine xEqF (N := 1) (x := r108) (y := 0) (A := ev m_G_addSlot 168 [some (eR 1), some (eI x), some (eI y), some (eI 0), some (eI 1), some (eI 0), some (eI 1), some (eI z)] [] (wC (uS S 7 (fR 0 X Y n (S 7) p)), c)) (B := ev m_G_addSlot 114 [some (eR 1), some (eI x), some (eI y), some (eI 0), some (eI 1), some (eI 0), some (eI 1), some (eI z)] [] (wC (uS S 7 (fR 0 X Y n (S 7) p)), c)) rfl (wr_id (by omega) (by omega)) (show wr 0 = 0 by decide) (by omega) ?_
      refine xCallI (N := 11) (v := (y + (z * 0)) * 6 + (x + (z * 1))) (M2 := m_G_addSlot) (pc2 := 128) (ls2 := [some (eR 1), some (eI x), some (eI y), some (eI 0), some (eI 1), some (eI 0), some (eI 1), some (eI z)]) (st2 := []) (y := m_G_cell) (as := [some (eI (x + (z * 1))), some (eI (y + (z * 0)))]) (w2 := (wC (uS S 7 (fR 0 X Y n (S 7) p)), c)) rfl c_cell (fun r128 hr128 => ?_)
      refine xEqT (N := 3) (x := 0) (y := 0) (A := ev m_G_addSlot 151 [some (eR 1), some (eI x), some (eI y), some (eI 0), some (eI 1), some (eI 0), some (eI 1), some (eI z), some (eI r128)] [] (wC (uS S 7 (fR 0 X Y n (S 7) p)), c)) (B := ev m_G_addSlot 137 [some (eR 1), some (eI x), some (eI y), some (eI 0), some (eI 1), some (eI 0), some (eI 1), some (eI z), some (eI r128)] [] (wC (uS S 7 (fR 0 X Y n (S 7) p)), c)) rfl (show wr 0 = 0 by decide) (show wr 0 = 0 by decide) (by decide) ?_
      refine xLd (N := 6) (n := 36) (i := r128) (F := fun zq => ev m_G_addSlot 162 [some (eR 1), some (eI x), some (eI y), some (eI 0), some (eI 1), some (eI 0), some (eI 1), some (eI z), some (eI r128)] [] (wC (uI (uS S 7 (fR 0 X Y n (S 7) p)) 7 zq (S 1 4)), c)) (k := (Y + p * 0) * 6 + (X + p * (1 - 0))) rfl (wr_nat (by omega) (by omega)) (by omega) ?_
      refine xSeg (N := 2) (r := ev m_G_addSlot 86 [some (eR 1), some (eI x), some (eI y), some (eI 0), some (eI 1), some (eI 0), some (eI 1), some (eI (z + 1)), some (eI r128)] [] (wC (uI (uS S 7 (fR 0 X Y n (S 7) p)) 7 ((Y + p * 0) * 6 + (X + p * (1 - 0))) (S 1 4)), c)) rfl ?_
      refine xTk 8 (by rfl) rfl ?_
      rw [hst]
      exact ih _ (by omega)
  cases hbg : begs W H B 0 X Y with
  | true =>
    have hn24 := hn hbg
    have hb := hbg
    unfold begs at hb
    simp only [Bool.and_eq_true, Bool.not_eq_true'] at hb
    have h0 := hl hbg 0 (Nat.zero_le _) 0 rfl
    rw [fR_0, uS_self] at h0
    rw [cond_true]
    refine xEqT (N := 2) (x := 0) (y := 0) (A := ev m_G_addSlot 8 [some (eR 1), some (eI x), some (eI y), some (eI 0)] [] (wC S, c)) (B := ev m_G_addSlot 4 [some (eR 1), some (eI x), some (eI y), some (eI 0)] [] (wC S, c)) rfl (show wr 0 = 0 by decide) (show wr 0 = 0 by decide) (by decide) ?_
    refine xEqT (N := 4) (x := 0) (y := 0) (A := ev m_G_addSlot 19 [some (eR 1), some (eI x), some (eI y), some (eI 0), some (eI 1)] [] (wC S, c)) (B := ev m_G_addSlot 15 [some (eR 1), some (eI x), some (eI y), some (eI 0), some (eI 1)] [] (wC S, c)) rfl (show wr 0 = 0 by decide) (show wr 0 = 0 by decide) (by decide) ?_
    refine xCallWI (N := 6) (v := bI (opn W H B (X : Int) (Y : Int))) (M2 := m_G_addSlot) (pc2 := 25) (ls2 := [some (eR 1), some (eI x), some (eI y), some (eI 0), some (eI 1), some (eI 0)]) (st2 := []) (y := m_G_isOpen) (as := [some (eR 1), some (eI x), some (eI y)]) (w2 := (wC S, c)) rfl (c_isOpen2 g0 g1 gW gH gB hx hy (by omega) (by omega)) (fun r25 hr25 => ?_)
    have hq1 := (bI_1 hr25).2.1.mpr hb.1
    refine xEqF (N := 1) (x := r25) (y := 0) (A := ev m_G_addSlot 65 [some (eR 1), some (eI x), some (eI y), some (eI 0), some (eI 1), some (eI 0)] [] (wC S, c)) (B := ev m_G_addSlot 31 [some (eR 1), some (eI x), some (eI y), some (eI 0), some (eI 1), some (eI 0)] [] (wC S, c)) rfl (wr_id (by omega) (by omega)) (show wr 0 = 0 by decide) (by omega) ?_
    refine xCallWI (N := 8) (v := bI (opn W H B ((X : Int) - ((1 - 0 : Nat) : Int)) ((Y : Int) - ((0 : Nat) : Int)))) (M2 := m_G_addSlot) (pc2 := 40) (ls2 := [some (eR 1), some (eI x), some (eI y), some (eI 0), some (eI 1), some (eI 0)]) (st2 := []) (y := m_G_isOpen) (as := [some (eR 1), some (eI (x - 1)), some (eI (y - 0))]) (w2 := (wC S, c)) rfl (c_isOpen2 g0 g1 gW gH gB (x' := (X : Int) - ((1 - 0 : Nat) : Int)) (y' := (Y : Int) - ((0 : Nat) : Int)) (by omega) (by omega) (by omega) (by omega)) (fun r40 hr40 => ?_)
    have hq2 := (bI_1 hr40).2.2.mpr hb.2.1
    refine xEqT (N := 1) (x := r40) (y := 0) (A := ev m_G_addSlot 46 [some (eR 1), some (eI x), some (eI y), some (eI 0), some (eI 1), some (eI 0)] [] (wC S, c)) (B := ev m_G_addSlot 65 [some (eR 1), some (eI x), some (eI y), some (eI 0), some (eI 1), some (eI 0)] [] (wC S, c)) rfl (wr_id (by omega) (by omega)) (show wr 0 = 0 by decide) (by omega) ?_
    refine xCallWI (N := 8) (v := bI (opn W H B ((X : Int) + ((1 - 0 : Nat) : Int)) ((Y : Int) + ((0 : Nat) : Int)))) (M2 := m_G_addSlot) (pc2 := 55) (ls2 := [some (eR 1), some (eI x), some (eI y), some (eI 0), some (eI 1), some (eI 0)]) (st2 := []) (y := m_G_isOpen) (as := [some (eR 1), some (eI (x + 1)), some (eI (y + 0))]) (w2 := (wC S, c)) rfl (c_isOpen2 g0 g1 gW gH gB (x' := (X : Int) + ((1 - 0 : Nat) : Int)) (y' := (Y : Int) + ((0 : Nat) : Int)) (by omega) (by omega) (by omega) (by omega)) (fun r55 hr55 => ?_)
    have hq3 := (bI_1 hr55).2.1.mpr hb.2.2
    refine xEqF (N := 1) (x := r55) (y := 0) (A := ev m_G_addSlot 65 [some (eR 1), some (eI x), some (eI y), some (eI 0), some (eI 1), some (eI 0)] [] (wC S, c)) (B := ev m_G_addSlot 61 [some (eR 1), some (eI x), some (eI y), some (eI 0), some (eI 1), some (eI 0)] [] (wC S, c)) rfl (wr_id (by omega) (by omega)) (show wr 0 = 0 by decide) (by omega) ?_
    refine xEqF (N := 5) (x := 1) (y := 0) (A := ev m_G_addSlot 82 [some (eR 1), some (eI x), some (eI y), some (eI 0), some (eI 1), some (eI 0), some (eI 1)] [] (wC S, c)) (B := ev m_G_addSlot 73 [some (eR 1), some (eI x), some (eI y), some (eI 0), some (eI 1), some (eI 0), some (eI 1)] [] (wC S, c)) rfl (show wr 1 = 1 by decide) (show wr 0 = 0 by decide) (by decide) ?_
    refine xLtT (N := 4) (x := S 1 4) (y := 24) (A := ev m_G_addSlot 83 [some (eR 1), some (eI x), some (eI y), some (eI 0), some (eI 1), some (eI 0), some (eI 1)] [] (wC S, c)) (B := ev m_G_addSlot 82 [some (eR 1), some (eI x), some (eI y), some (eI 0), some (eI 1), some (eI 0), some (eI 1)] [] (wC S, c)) rfl (wr_id (by omega) (by omega)) (show wr 24 = 24 by decide) (by omega) ?_
    refine xSeg (N := 2) (r := ev m_G_addSlot 86 [some (eR 1), some (eI x), some (eI y), some (eI 0), some (eI 1), some (eI 0), some (eI 1), some (eI 0)] [] (wC S, c)) rfl ?_
    exact h0
  | false =>
    rw [cond_false]
    have hb := hbg
    unfold begs at hb
    have hfin : ∀ l4 l5 : Int, ev m_G_addSlot 66 [some (eR 1), some (eI x), some (eI y), some (eI 0), some (eI l4), some (eI l5)] [eI 0] (wC S, c) = some (.inl none, (wC S, c)) := by
      intro l4 l5
      refine xEqT (N := 3) (x := 0) (y := 0) (A := ev m_G_addSlot 82 [some (eR 1), some (eI x), some (eI y), some (eI 0), some (eI l4), some (eI l5), some (eI 0)] [] (wC S, c)) (B := ev m_G_addSlot 73 [some (eR 1), some (eI x), some (eI y), some (eI 0), some (eI l4), some (eI l5), some (eI 0)] [] (wC S, c)) rfl (show wr 0 = 0 by decide) (show wr 0 = 0 by decide) (by decide) ?_
      refine xSeg (N := 1) (r := some (.inl none, (wC S, c))) rfl ?_
      rfl
    refine xEqT (N := 2) (x := 0) (y := 0) (A := ev m_G_addSlot 8 [some (eR 1), some (eI x), some (eI y), some (eI 0)] [] (wC S, c)) (B := ev m_G_addSlot 4 [some (eR 1), some (eI x), some (eI y), some (eI 0)] [] (wC S, c)) rfl (show wr 0 = 0 by decide) (show wr 0 = 0 by decide) (by decide) ?_
    refine xEqT (N := 4) (x := 0) (y := 0) (A := ev m_G_addSlot 19 [some (eR 1), some (eI x), some (eI y), some (eI 0), some (eI 1)] [] (wC S, c)) (B := ev m_G_addSlot 15 [some (eR 1), some (eI x), some (eI y), some (eI 0), some (eI 1)] [] (wC S, c)) rfl (show wr 0 = 0 by decide) (show wr 0 = 0 by decide) (by decide) ?_
    refine xCallWI (N := 6) (v := bI (opn W H B (X : Int) (Y : Int))) (M2 := m_G_addSlot) (pc2 := 25) (ls2 := [some (eR 1), some (eI x), some (eI y), some (eI 0), some (eI 1), some (eI 0)]) (st2 := []) (y := m_G_isOpen) (as := [some (eR 1), some (eI x), some (eI y)]) (w2 := (wC S, c)) rfl (c_isOpen2 g0 g1 gW gH gB hx hy (by omega) (by omega)) (fun r25 hr25 => ?_)
    have hq1 := bI_1 hr25
    refine xEq (N := 1) (x := r25) (y := 0) (A := ev m_G_addSlot 65 [some (eR 1), some (eI x), some (eI y), some (eI 0), some (eI 1), some (eI 0)] [] (wC S, c)) (B := ev m_G_addSlot 31 [some (eR 1), some (eI x), some (eI y), some (eI 0), some (eI 1), some (eI 0)] [] (wC S, c)) rfl (wr_id (by omega) (by omega)) (show wr 0 = 0 by decide) (fun h28 => ?_) (fun h28 => ?_)
    · refine xSeg (N := 1) (r := ev m_G_addSlot 66 [some (eR 1), some (eI x), some (eI y), some (eI 0), some (eI 1), some (eI 0)] [eI 0] (wC S, c)) rfl ?_
      first | exact hfin _ _ | (exfalso; rw [hq1.2.1.mp (by omega), hq2.2.2.mp (by omega), hq3.2.1.mp (by omega)] at hb; cases hb)
    · refine xCallWI (N := 8) (v := bI (opn W H B ((X : Int) - ((1 - 0 : Nat) : Int)) ((Y : Int) - ((0 : Nat) : Int)))) (M2 := m_G_addSlot) (pc2 := 40) (ls2 := [some (eR 1), some (eI x), some (eI y), some (eI 0), some (eI 1), some (eI 0)]) (st2 := []) (y := m_G_isOpen) (as := [some (eR 1), some (eI (x - 1)), some (eI (y - 0))]) (w2 := (wC S, c)) rfl (c_isOpen2 g0 g1 gW gH gB (x' := (X : Int) - ((1 - 0 : Nat) : Int)) (y' := (Y : Int) - ((0 : Nat) : Int)) (by omega) (by omega) (by omega) (by omega)) (fun r40 hr40 => ?_)
      have hq2 := bI_1 hr40
      refine xEq (N := 1) (x := r40) (y := 0) (A := ev m_G_addSlot 46 [some (eR 1), some (eI x), some (eI y), some (eI 0), some (eI 1), some (eI 0)] [] (wC S, c)) (B := ev m_G_addSlot 65 [some (eR 1), some (eI x), some (eI y), some (eI 0), some (eI 1), some (eI 0)] [] (wC S, c)) rfl (wr_id (by omega) (by omega)) (show wr 0 = 0 by decide) (fun h43 => ?_) (fun h43 => ?_)
      · refine xCallWI (N := 8) (v := bI (opn W H B ((X : Int) + ((1 - 0 : Nat) : Int)) ((Y : Int) + ((0 : Nat) : Int)))) (M2 := m_G_addSlot) (pc2 := 55) (ls2 := [some (eR 1), some (eI x), some (eI y), some (eI 0), some (eI 1), some (eI 0)]) (st2 := []) (y := m_G_isOpen) (as := [some (eR 1), some (eI (x + 1)), some (eI (y + 0))]) (w2 := (wC S, c)) rfl (c_isOpen2 g0 g1 gW gH gB (x' := (X : Int) + ((1 - 0 : Nat) : Int)) (y' := (Y : Int) + ((0 : Nat) : Int)) (by omega) (by omega) (by omega) (by omega)) (fun r55 hr55 => ?_)
        have hq3 := bI_1 hr55
        refine xEq (N := 1) (x := r55) (y := 0) (A := ev m_G_addSlot 65 [some (eR 1), some (eI x), some (eI y), some (eI 0), some (eI 1), some (eI 0)] [] (wC S, c)) (B := ev m_G_addSlot 61 [some (eR 1), some (eI x), some (eI y), some (eI 0), some (eI 1), some (eI 0)] [] (wC S, c)) rfl (wr_id (by omega) (by omega)) (show wr 0 = 0 by decide) (fun h58 => ?_) (fun h58 => ?_)
        · refine xSeg (N := 1) (r := ev m_G_addSlot 66 [some (eR 1), some (eI x), some (eI y), some (eI 0), some (eI 1), some (eI 0)] [eI 0] (wC S, c)) rfl ?_
          first | exact hfin _ _ | (exfalso; rw [hq1.2.1.mp (by omega), hq2.2.2.mp (by omega), hq3.2.1.mp (by omega)] at hb; cases hb)
        · refine xSeg (N := 2) (r := ev m_G_addSlot 66 [some (eR 1), some (eI x), some (eI y), some (eI 0), some (eI 1), some (eI 0)] [eI 1] (wC S, c)) rfl ?_
          first | exact hfin _ _ | (exfalso; rw [hq1.2.1.mp (by omega), hq2.2.2.mp (by omega), hq3.2.1.mp (by omega)] at hb; cases hb)
      · refine xSeg (N := 1) (r := ev m_G_addSlot 66 [some (eR 1), some (eI x), some (eI y), some (eI 0), some (eI 1), some (eI 0)] [eI 0] (wC S, c)) rfl ?_
        first | exact hfin _ _ | (exfalso; rw [hq1.2.1.mp (by omega), hq2.2.2.mp (by omega), hq3.2.1.mp (by omega)] at hb; cases hb)
/-- the slot is added -/
def adS1 (S : wS) (W H : Nat) (B : Nat → Nat) (n X Y : Nat) : wS := bif begs W H B 1 X Y then uI (uI (uI (uI (uS S 8 (fR 1 X Y n (S 8) (rlen W H B 1 X Y))) 4 n ((Y * 6 + X : Nat) : Int)) 5 n (rlen W H B 1 X Y : Int)) 6 n 1) 1 4 (S 1 4 + 1) else S
theorem c_addSlot1 {S : wS} {c : Nat × Nat} {x y : Int} {W H n X Y : Nat} {B : Nat → Nat} (g0 : S 1 0 = (W : Int)) (g1 : S 1 1 = (H : Int)) (gW : W < 7) (gH : H < 7) (gB : ∀ k, k < 36 → S 2 k = (B k : Int) ∧ B k ≤ 1) (gn : S 1 4 = (n : Int)) (hn : begs W H B 1 X Y = true → n < 24) (hx : x = (X : Int)) (hy : y = (Y : Int)) (hX : X < 6) (hY : Y < 6) : ev m_G_addSlot 0 [some (eR 1), some (eI x), some (eI y), some (eI 1)] [] (wC S, c) = some (.inl none, (wC (adS1 S W H B n X Y), c)) := by
  obtain ⟨r1, r2, r3⟩ := rlen_spec (B := B) (d := 1) (X := X) (Y := Y) gW gH (by decide)
  unfold adS1
  have hl : begs W H B 1 X Y = true → ∀ p : Nat, p ≤ rlen W H B 1 X Y → ∀ z : Int, z = (p : Int) → ev m_G_addSlot 86 [some (eR 1), some (eI x), some (eI y), some (eI 1), some (eI 0), some (eI 1), some (eI 1), some (eI z)] [] (wC (uS S 8 (fR 1 X Y n (S 8) p)), c) = some (.inl none, (wC (uI (uI (uI (uI (uS S 8 (fR 1 X Y n (S 8) (rlen W H B 1 X Y))) 4 n ((Y * 6 + X : Nat) : Int)) 5 n (rlen W H B 1 X Y : Int)) 6 n 1) 1 4 (S 1 4 + 1)), c)) := by
    intro hbg
    have hn24 := hn hbg
    generalize hL : rlen W H B 1 X Y = L at r1 r2 r3
    refine loop_up ?_ ?_
    · intro z hz
      have hend : ∀ (z2 : Int), ev m_G_addSlot 168 [some (eR 1), some (eI x), some (eI y), some (eI 1), some (eI 0), some (eI 1), some (eI 1), some (eI z)] [] (wC (uS S 8 (fR 1 X Y n (S 8) L)), c) = some (.inl none, (wC (uI (uI (uI (uI (uS S 8 (fR 1 X Y n (S 8) L)) 4 n ((Y * 6 + X : Nat) : Int)) 5 n (L : Int)) 6 n 1) 1 4 (S 1 4 + 1)), c)) := by
        intro z2
        refine xCallI (N := 7) (v := y * 6 + x) (M2 := m_G_addSlot) (pc2 := 178) (ls2 := [some (eR 1), some (eI x), some (eI y), some (eI 1), some (eI 0), some (eI 1), some (eI 1), some (eI z)]) (st2 := [eI (S 1 4), eR 4]) (y := m_G_cell) (as := [some (eI x), some (eI y)]) (w2 := (wC (uS S 8 (fR 1 X Y n (S 8) L)), c)) rfl c_cell (fun r178 hr178 => ?_)
        refine xLd (N := 1) (n := 24) (i := S 1 4) (F := fun zq => ev m_G_addSlot 182 [some (eR 1), some (eI x), some (eI y), some (eI 1), some (eI 0), some (eI 1), some (eI 1), some (eI z)] [] (wC (uI (uS S 8 (fR 1 X Y n (S 8) L)) 4 zq r178), c)) (k := n) rfl (wr_nat (by omega) (by omega)) (by omega) ?_
        refine xLd (N := 6) (n := 24) (i := S 1 4) (F := fun zq => ev m_G_addSlot 193 [some (eR 1), some (eI x), some (eI y), some (eI 1), some (eI 0), some (eI 1), some (eI 1), some (eI z)] [] (wC (uI (uI (uS S 8 (fR 1 X Y n (S 8) L)) 4 n r178) 5 zq z), c)) (k := n) rfl (wr_nat (by omega) (by omega)) (by omega) ?_
        refine xLd (N := 6) (n := 24) (i := S 1 4) (F := fun zq => ev m_G_addSlot 203 [some (eR 1), some (eI x), some (eI y), some (eI 1), some (eI 0), some (eI 1), some (eI 1), some (eI z)] [] (wC (uI (uI (uI (uS S 8 (fR 1 X Y n (S 8) L)) 4 n r178) 5 n z) 6 zq 1), c)) (k := n) rfl (wr_nat (by omega) (by omega)) (by omega) ?_
        refine xSeg (N := 7) (r := some (.inl none, (wC (uI (uI (uI (uI (uS S 8 (fR 1 X Y n (S 8) L)) 4 n r178) 5 n z) 6 n 1) 1 4 ((S 1 4) + 1)), c))) rfl ?_
        rw [hr178, hz, show y * 6 + x = ((Y * 6 + X : Nat) : Int) by omega]
      by_cases h6 : 6 ≤ L
      · refine xLtF (N := 3) (x := z) (y := 6) (A := ev m_G_addSlot 93 [some (eR 1), some (eI x), some (eI y), some (eI 1), some (eI 0), some (eI 1), some (eI 1), some (eI z)] [] (wC (uS S 8 (fR 1 X Y n (S 8) L)), c)) (B := ev m_G_addSlot 168 [some (eR 1), some (eI x), some (eI y), some (eI 1), some (eI 0), some (eI 1), some (eI 1), some (eI z)] [] (wC (uS S 8 (fR 1 X Y n (S 8) L)), c)) rfl (wr_id (by omega) (by omega)) (show wr 6 = 6 by decide) (by omega) ?_
        exact hend 0
      · refine xLtT (N := 3) (x := z) (y := 6) (A := ev m_G_addSlot 93 [some (eR 1), some (eI x), some (eI y), some (eI 1), some (eI 0), some (eI 1), some (eI 1), some (eI z)] [] (wC (uS S 8 (fR 1 X Y n (S 8) L)), c)) (B := ev m_G_addSlot 168 [some (eR 1), some (eI x), some (eI y), some (eI 1), some (eI 0), some (eI 1), some (eI 1), some (eI z)] [] (wC (uS S 8 (fR 1 X Y n (S 8) L)), c)) rfl (wr_id (by omega) (by omega)) (show wr 6 = 6 by decide) (by omega) ?_
        refine xCallWI (N := 12) (v := bI (runq W H B 1 X Y L)) (M2 := m_G_addSlot) (pc2 := 108) (ls2 := [some (eR 1), some (eI x), some (eI y), some (eI 1), some (eI 0), some (eI 1), some (eI 1), some (eI z)]) (st2 := []) (y := m_G_isOpen) (as := [some (eR 1), some (eI (x + (z * 0))), some (eI (y + (z * 1)))]) (w2 := (wC (uS S 8 (fR 1 X Y n (S 8) L)), c)) rfl (c_isOpen2 (S := uS S 8 (fR 1 X Y n (S 8) L)) (x' := ((X + L * (1 - 1) : Nat) : Int)) (y' := ((Y + L * 1 : Nat) : Int)) g0 g1 gW gH gB (by omega) (by omega) (by omega) (by omega)) (fun r108 hr108 => ?_)
        have hq := bI_1 hr108
        have hq0 := hq.2.2.mpr r3
        refine xEqT (N := 1) (x := r108) (y := 0) (A := ev m_G_addSlot 168 [some (eR 1), some (eI x), some (eI y), some (eI 1), some (eI 0), some (eI 1), some (eI 1), some (eI z)] [] (wC (uS S 8 (fR 1 X Y n (S 8) L)), c)) (B := ev m_G_addSlot 114 [some (eR 1), some (eI x), some (eI y), some (eI 1), some (eI 0), some (eI 1), some (eI 1), some (eI z)] [] (wC (uS S 8 (fR 1 X Y n (S 8) L)), c)) rfl (wr_id (by omega) (by omega)) (show wr 0 = 0 by decide) (by omega) ?_
        exact hend 0
    · intro p hp ih z hz
      have hrq := r2 p hp
      have hin := opn_in hrq
      have hst : uI (uS S 8 (fR 1 X Y n (S 8) p)) 8 ((Y + p * 1) * 6 + (X + p * (1 - 1))) (S 1 4) = uS S 8 (fR 1 X Y n (S 8) (p + 1)) := by rw [uI_uS, gn, fR_step (by decide) (by omega)]
      refine xLtT (N := 3) (x := z) (y := 6) (A := ev m_G_addSlot 93 [some (eR 1), some (eI x), some (eI y), some (eI 1), some (eI 0), some (eI 1), some (eI 1), some (eI z)] [] (wC (uS S 8 (fR 1 X Y n (S 8) p)), c)) (B := ev m_G_addSlot 168 [some (eR 1), some (eI x), some (eI y), some (eI 1), some (eI 0), some (eI 1), some (eI 1), some (eI z)] [] (wC (uS S 8 (fR 1 X Y n (S 8) p)), c)) rfl (wr_id (by omega) (by omega)) (show wr 6 = 6 by decide) (by omega) ?_
      refine xCallWI (N := 12) (v := bI (runq W H B 1 X Y p)) (M2 := m_G_addSlot) (pc2 := 108) (ls2 := [some (eR 1), some (eI x), some (eI y), some (eI 1), some (eI 0), some (eI 1), some (eI 1), some (eI z)]) (st2 := []) (y := m_G_isOpen) (as := [some (eR 1), some (eI (x + (z * 0))), some (eI (y + (z * 1)))]) (w2 := (wC (uS S 8 (fR 1 X Y n (S 8) p)), c)) rfl (c_isOpen2 (S := uS S 8 (fR 1 X Y n (S 8) p)) (x' := ((X + p * (1 - 1) : Nat) : Int)) (y' := ((Y + p * 1 : Nat) : Int)) g0 g1 gW gH gB (by omega) (by omega) (by omega) (by omega)) (fun r108 hr108 => ?_)
      have hq := bI_1 hr108
      have hq1 := hq.2.1.mpr hrq
      refine xEqF (N := 1) (x := r108) (y := 0) (A := ev m_G_addSlot 168 [some (eR 1), some (eI x), some (eI y), some (eI 1), some (eI 0), some (eI 1), some (eI 1), some (eI z)] [] (wC (uS S 8 (fR 1 X Y n (S 8) p)), c)) (B := ev m_G_addSlot 114 [some (eR 1), some (eI x), some (eI y), some (eI 1), some (eI 0), some (eI 1), some (eI 1), some (eI z)] [] (wC (uS S 8 (fR 1 X Y n (S 8) p)), c)) rfl (wr_id (by omega) (by omega)) (show wr 0 = 0 by decide) (by omega) ?_
      refine xCallI (N := 11) (v := (y + (z * 1)) * 6 + (x + (z * 0))) (M2 := m_G_addSlot) (pc2 := 128) (ls2 := [some (eR 1), some (eI x), some (eI y), some (eI 1), some (eI 0), some (eI 1), some (eI 1), some (eI z)]) (st2 := []) (y := m_G_cell) (as := [some (eI (x + (z * 0))), some (eI (y + (z * 1)))]) (w2 := (wC (uS S 8 (fR 1 X Y n (S 8) p)), c)) rfl c_cell (fun r128 hr128 => ?_)
      refine xEqF (N := 3) (x := 1) (y := 0) (A := ev m_G_addSlot 151 [some (eR 1), some (eI x), some (eI y), some (eI 1), some (eI 0), some (eI 1), some (eI 1), some (eI z), some (eI r128)] [] (wC (uS S 8 (fR 1 X Y n (S 8) p)), c)) (B := ev m_G_addSlot 137 [some (eR 1), some (eI x), some (eI y), some (eI 1), some (eI 0), some (eI 1), some (eI 1), some (eI z), some (eI r128)] [] (wC (uS S 8 (fR 1 X Y n (S 8) p)), c)) rfl (show wr 1 = 1 by decide) (show wr 0 = 0 by decide) (by decide) ?_
      refine xLd (N := 6) (n := 36) (i := r128) (F := fun zq => ev m_G_addSlot 148 [some (eR 1), some (eI x), some (eI y), some (eI 1), some (eI 0), some (eI 1), some (eI 1), some (eI z), some (eI r128)] [] (wC (uI (uS S 8 (fR 1 X Y n (S 8) p)) 8 zq (S 1 4)), c)) (k := (Y + p * 1) * 6 + (X + p * (1 - 1))) rfl (wr_nat (by omega) (by omega)) (by omega) ?_
      refine xSeg (N := 3) (r := ev m_G_addSlot 86 [some (eR 1), some (eI x), some (eI y), some (eI 1), some (eI 0), some (eI 1), some (eI 1), some (eI (z + 1)), some (eI r128)] [] (wC (uI (uS S 8 (fR 1 X Y n (S 8) p)) 8 ((Y + p * 1) * 6 + (X + p * (1 - 1))) (S 1 4)), c)) rfl ?_
      refine xTk 8 (by rfl) rfl ?_
      rw [hst]
      exact ih _ (by omega)
  cases hbg : begs W H B 1 X Y with
  | true =>
    have hn24 := hn hbg
    have hb := hbg
    unfold begs at hb
    simp only [Bool.and_eq_true, Bool.not_eq_true'] at hb
    have h0 := hl hbg 0 (Nat.zero_le _) 0 rfl
    rw [fR_0, uS_self] at h0
    rw [cond_true]
    refine xEqF (N := 2) (x := 1) (y := 0) (A := ev m_G_addSlot 8 [some (eR 1), some (eI x), some (eI y), some (eI 1)] [] (wC S, c)) (B := ev m_G_addSlot 4 [some (eR 1), some (eI x), some (eI y), some (eI 1)] [] (wC S, c)) rfl (show wr 1 = 1 by decide) (show wr 0 = 0 by decide) (by decide) ?_
    refine xEqF (N := 5) (x := 1) (y := 0) (A := ev m_G_addSlot 19 [some (eR 1), some (eI x), some (eI y), some (eI 1), some (eI 0)] [] (wC S, c)) (B := ev m_G_addSlot 15 [some (eR 1), some (eI x), some (eI y), some (eI 1), some (eI 0)] [] (wC S, c)) rfl (show wr 1 = 1 by decide) (show wr 0 = 0 by decide) (by decide) ?_
    refine xCallWI (N := 7) (v := bI (opn W H B (X : Int) (Y : Int))) (M2 := m_G_addSlot) (pc2 := 25) (ls2 := [some (eR 1), some (eI x), some (eI y), some (eI 1), some (eI 0), some (eI 1)]) (st2 := []) (y := m_G_isOpen) (as := [some (eR 1), some (eI x), some (eI y)]) (w2 := (wC S, c)) rfl (c_isOpen2 g0 g1 gW gH gB hx hy (by omega) (by omega)) (fun r25 hr25 => ?_)
    have hq1 := (bI_1 hr25).2.1.mpr hb.1
    refine xEqF (N := 1) (x := r25) (y := 0) (A := ev m_G_addSlot 65 [some (eR 1), some (eI x), some (eI y), some (eI 1), some (eI 0), some (eI 1)] [] (wC S, c)) (B := ev m_G_addSlot 31 [some (eR 1), some (eI x), some (eI y), some (eI 1), some (eI 0), some (eI 1)] [] (wC S, c)) rfl (wr_id (by omega) (by omega)) (show wr 0 = 0 by decide) (by omega) ?_
    refine xCallWI (N := 8) (v := bI (opn W H B ((X : Int) - ((1 - 1 : Nat) : Int)) ((Y : Int) - ((1 : Nat) : Int)))) (M2 := m_G_addSlot) (pc2 := 40) (ls2 := [some (eR 1), some (eI x), some (eI y), some (eI 1), some (eI 0), some (eI 1)]) (st2 := []) (y := m_G_isOpen) (as := [some (eR 1), some (eI (x - 0)), some (eI (y - 1))]) (w2 := (wC S, c)) rfl (c_isOpen2 g0 g1 gW gH gB (x' := (X : Int) - ((1 - 1 : Nat) : Int)) (y' := (Y : Int) - ((1 : Nat) : Int)) (by omega) (by omega) (by omega) (by omega)) (fun r40 hr40 => ?_)
    have hq2 := (bI_1 hr40).2.2.mpr hb.2.1
    refine xEqT (N := 1) (x := r40) (y := 0) (A := ev m_G_addSlot 46 [some (eR 1), some (eI x), some (eI y), some (eI 1), some (eI 0), some (eI 1)] [] (wC S, c)) (B := ev m_G_addSlot 65 [some (eR 1), some (eI x), some (eI y), some (eI 1), some (eI 0), some (eI 1)] [] (wC S, c)) rfl (wr_id (by omega) (by omega)) (show wr 0 = 0 by decide) (by omega) ?_
    refine xCallWI (N := 8) (v := bI (opn W H B ((X : Int) + ((1 - 1 : Nat) : Int)) ((Y : Int) + ((1 : Nat) : Int)))) (M2 := m_G_addSlot) (pc2 := 55) (ls2 := [some (eR 1), some (eI x), some (eI y), some (eI 1), some (eI 0), some (eI 1)]) (st2 := []) (y := m_G_isOpen) (as := [some (eR 1), some (eI (x + 0)), some (eI (y + 1))]) (w2 := (wC S, c)) rfl (c_isOpen2 g0 g1 gW gH gB (x' := (X : Int) + ((1 - 1 : Nat) : Int)) (y' := (Y : Int) + ((1 : Nat) : Int)) (by omega) (by omega) (by omega) (by omega)) (fun r55 hr55 => ?_)
    have hq3 := (bI_1 hr55).2.1.mpr hb.2.2
    refine xEqF (N := 1) (x := r55) (y := 0) (A := ev m_G_addSlot 65 [some (eR 1), some (eI x), some (eI y), some (eI 1), some (eI 0), some (eI 1)] [] (wC S, c)) (B := ev m_G_addSlot 61 [some (eR 1), some (eI x), some (eI y), some (eI 1), some (eI 0), some (eI 1)] [] (wC S, c)) rfl (wr_id (by omega) (by omega)) (show wr 0 = 0 by decide) (by omega) ?_
    refine xEqF (N := 5) (x := 1) (y := 0) (A := ev m_G_addSlot 82 [some (eR 1), some (eI x), some (eI y), some (eI 1), some (eI 0), some (eI 1), some (eI 1)] [] (wC S, c)) (B := ev m_G_addSlot 73 [some (eR 1), some (eI x), some (eI y), some (eI 1), some (eI 0), some (eI 1), some (eI 1)] [] (wC S, c)) rfl (show wr 1 = 1 by decide) (show wr 0 = 0 by decide) (by decide) ?_
    refine xLtT (N := 4) (x := S 1 4) (y := 24) (A := ev m_G_addSlot 83 [some (eR 1), some (eI x), some (eI y), some (eI 1), some (eI 0), some (eI 1), some (eI 1)] [] (wC S, c)) (B := ev m_G_addSlot 82 [some (eR 1), some (eI x), some (eI y), some (eI 1), some (eI 0), some (eI 1), some (eI 1)] [] (wC S, c)) rfl (wr_id (by omega) (by omega)) (show wr 24 = 24 by decide) (by omega) ?_
    refine xSeg (N := 2) (r := ev m_G_addSlot 86 [some (eR 1), some (eI x), some (eI y), some (eI 1), some (eI 0), some (eI 1), some (eI 1), some (eI 0)] [] (wC S, c)) rfl ?_
    exact h0
  | false =>
    rw [cond_false]
    have hb := hbg
    unfold begs at hb
    have hfin : ∀ l4 l5 : Int, ev m_G_addSlot 66 [some (eR 1), some (eI x), some (eI y), some (eI 1), some (eI l4), some (eI l5)] [eI 0] (wC S, c) = some (.inl none, (wC S, c)) := by
      intro l4 l5
      refine xEqT (N := 3) (x := 0) (y := 0) (A := ev m_G_addSlot 82 [some (eR 1), some (eI x), some (eI y), some (eI 1), some (eI l4), some (eI l5), some (eI 0)] [] (wC S, c)) (B := ev m_G_addSlot 73 [some (eR 1), some (eI x), some (eI y), some (eI 1), some (eI l4), some (eI l5), some (eI 0)] [] (wC S, c)) rfl (show wr 0 = 0 by decide) (show wr 0 = 0 by decide) (by decide) ?_
      refine xSeg (N := 1) (r := some (.inl none, (wC S, c))) rfl ?_
      rfl
    refine xEqF (N := 2) (x := 1) (y := 0) (A := ev m_G_addSlot 8 [some (eR 1), some (eI x), some (eI y), some (eI 1)] [] (wC S, c)) (B := ev m_G_addSlot 4 [some (eR 1), some (eI x), some (eI y), some (eI 1)] [] (wC S, c)) rfl (show wr 1 = 1 by decide) (show wr 0 = 0 by decide) (by decide) ?_
    refine xEqF (N := 5) (x := 1) (y := 0) (A := ev m_G_addSlot 19 [some (eR 1), some (eI x), some (eI y), some (eI 1), some (eI 0)] [] (wC S, c)) (B := ev m_G_addSlot 15 [some (eR 1), some (eI x), some (eI y), some (eI 1), some (eI 0)] [] (wC S, c)) rfl (show wr 1 = 1 by decide) (show wr 0 = 0 by decide) (by decide) ?_
    refine xCallWI (N := 7) (v := bI (opn W H B (X : Int) (Y : Int))) (M2 := m_G_addSlot) (pc2 := 25) (ls2 := [some (eR 1), some (eI x), some (eI y), some (eI 1), some (eI 0), some (eI 1)]) (st2 := []) (y := m_G_isOpen) (as := [some (eR 1), some (eI x), some (eI y)]) (w2 := (wC S, c)) rfl (c_isOpen2 g0 g1 gW gH gB hx hy (by omega) (by omega)) (fun r25 hr25 => ?_)
    have hq1 := bI_1 hr25
    refine xEq (N := 1) (x := r25) (y := 0) (A := ev m_G_addSlot 65 [some (eR 1), some (eI x), some (eI y), some (eI 1), some (eI 0), some (eI 1)] [] (wC S, c)) (B := ev m_G_addSlot 31 [some (eR 1), some (eI x), some (eI y), some (eI 1), some (eI 0), some (eI 1)] [] (wC S, c)) rfl (wr_id (by omega) (by omega)) (show wr 0 = 0 by decide) (fun h28 => ?_) (fun h28 => ?_)
    · refine xSeg (N := 1) (r := ev m_G_addSlot 66 [some (eR 1), some (eI x), some (eI y), some (eI 1), some (eI 0), some (eI 1)] [eI 0] (wC S, c)) rfl ?_
      first | exact hfin _ _ | (exfalso; rw [hq1.2.1.mp (by omega), hq2.2.2.mp (by omega), hq3.2.1.mp (by omega)] at hb; cases hb)
    · refine xCallWI (N := 8) (v := bI (opn W H B ((X : Int) - ((1 - 1 : Nat) : Int)) ((Y : Int) - ((1 : Nat) : Int)))) (M2 := m_G_addSlot) (pc2 := 40) (ls2 := [some (eR 1), some (eI x), some (eI y), some (eI 1), some (eI 0), some (eI 1)]) (st2 := []) (y := m_G_isOpen) (as := [some (eR 1), some (eI (x - 0)), some (eI (y - 1))]) (w2 := (wC S, c)) rfl (c_isOpen2 g0 g1 gW gH gB (x' := (X : Int) - ((1 - 1 : Nat) : Int)) (y' := (Y : Int) - ((1 : Nat) : Int)) (by omega) (by omega) (by omega) (by omega)) (fun r40 hr40 => ?_)
      have hq2 := bI_1 hr40
      refine xEq (N := 1) (x := r40) (y := 0) (A := ev m_G_addSlot 46 [some (eR 1), some (eI x), some (eI y), some (eI 1), some (eI 0), some (eI 1)] [] (wC S, c)) (B := ev m_G_addSlot 65 [some (eR 1), some (eI x), some (eI y), some (eI 1), some (eI 0), some (eI 1)] [] (wC S, c)) rfl (wr_id (by omega) (by omega)) (show wr 0 = 0 by decide) (fun h43 => ?_) (fun h43 => ?_)
      · refine xCallWI (N := 8) (v := bI (opn W H B ((X : Int) + ((1 - 1 : Nat) : Int)) ((Y : Int) + ((1 : Nat) : Int)))) (M2 := m_G_addSlot) (pc2 := 55) (ls2 := [some (eR 1), some (eI x), some (eI y), some (eI 1), some (eI 0), some (eI 1)]) (st2 := []) (y := m_G_isOpen) (as := [some (eR 1), some (eI (x + 0)), some (eI (y + 1))]) (w2 := (wC S, c)) rfl (c_isOpen2 g0 g1 gW gH gB (x' := (X : Int) + ((1 - 1 : Nat) : Int)) (y' := (Y : Int) + ((1 : Nat) : Int)) (by omega) (by omega) (by omega) (by omega)) (fun r55 hr55 => ?_)
        have hq3 := bI_1 hr55
        refine xEq (N := 1) (x := r55) (y := 0) (A := ev m_G_addSlot 65 [some (eR 1), some (eI x), some (eI y), some (eI 1), some (eI 0), some (eI 1)] [] (wC S, c)) (B := ev m_G_addSlot 61 [some (eR 1), some (eI x), some (eI y), some (eI 1), some (eI 0), some (eI 1)] [] (wC S, c)) rfl (wr_id (by omega) (by omega)) (show wr 0 = 0 by decide) (fun h58 => ?_) (fun h58 => ?_)
        · refine xSeg (N := 1) (r := ev m_G_addSlot 66 [some (eR 1), some (eI x), some (eI y), some (eI 1), some (eI 0), some (eI 1)] [eI 0] (wC S, c)) rfl ?_
          first | exact hfin _ _ | (exfalso; rw [hq1.2.1.mp (by omega), hq2.2.2.mp (by omega), hq3.2.1.mp (by omega)] at hb; cases hb)
        · refine xSeg (N := 2) (r := ev m_G_addSlot 66 [some (eR 1), some (eI x), some (eI y), some (eI 1), some (eI 0), some (eI 1)] [eI 1] (wC S, c)) rfl ?_
          first | exact hfin _ _ | (exfalso; rw [hq1.2.1.mp (by omega), hq2.2.2.mp (by omega), hq3.2.1.mp (by omega)] at hb; cases hb)
      · refine xSeg (N := 1) (r := ev m_G_addSlot 66 [some (eR 1), some (eI x), some (eI y), some (eI 1), some (eI 0), some (eI 1)] [eI 0] (wC S, c)) rfl ?_
        first | exact hfin _ _ | (exfalso; rw [hq1.2.1.mp (by omega), hq2.2.2.mp (by omega), hq3.2.1.mp (by omega)] at hb; cases hb)
