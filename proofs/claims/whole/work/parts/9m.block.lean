/-! -/
/-! A blocked cell lies in no slot. -/
def iB (a : eRow) : Prop := ∀ e, e < 36 → a (16 + e) ≠ 0 → a (244 + e) = 0 ∧ a (280 + e) = 0
theorem iB_mk {a : eRow} (hW : a 0 < 7) (hH : a 1 < 7) : iB (mkSl a) := by
  obtain ⟨⟨j1, j2, j3⟩, j4, j5, j6, j7⟩ := mkSl_J hW hH
  have hq : ∀ q e, q ≤ 1 → e < 36 → mkSl a (16 + e) ≠ 0 → mkSl a (base q + e) = 0 := fun q e hq he hb => by
    refine Decidable.byContradiction (fun h0 => ?_)
    obtain ⟨h1, h2, h3⟩ := j6 q e hq he h0
    obtain ⟨h4, h5, h6, h7⟩ := j5 (mkSl a (base q + e) - 1) (by omega)
    rw [h2] at h4 h5 h6
    generalize sx (mkSl a) (mkSl a (base q + e) - 1) = X at *
    generalize sy (mkSl a) (mkSl a (base q + e) - 1) = Y at *
    generalize sl (mkSl a) (mkSl a (base q + e) - 1) = L at *
    obtain ⟨r1, r2, r3⟩ := rlen_spec (W := a 0) (H := a 1) (B := bl a) (d := q) (X := X) (Y := Y) hW hH hq
    rw [← h6] at r2
    have hbe : bl a e ≠ 0 := by rw [← j3 e he]; exact hb
    unfold iru at h3
    by_cases hd : q = 1
    · subst hd
      rw [if_pos rfl] at h3
      have h3 := of_decide_eq_true h3
      have h8 := r2 (e / 6 - Y) (by omega)
      unfold runq opn at h8
      have h9 := of_decide_eq_true (Bool.and_eq_true_iff.mp h8).2
      refine hbe ?_
      rw [← h9]
      congr 1
      omega
    · have hq0 : q = 0 := by omega
      subst hq0
      rw [if_neg (by omega)] at h3
      have h3 := of_decide_eq_true h3
      have h8 := r2 (e % 6 - X) (by omega)
      unfold runq opn at h8
      have h9 := of_decide_eq_true (Bool.and_eq_true_iff.mp h8).2
      refine hbe ?_
      rw [← h9]
      congr 1
      omega
  exact fun e he hb => ⟨hq 0 e (by omega) he hb, hq 1 e (by omega) he hb⟩
theorem iB_eq {a a' : eRow} (h : ∀ i, ((16 ≤ i ∧ i < 52) ∨ (244 ≤ i ∧ i < 316)) → a' i = a i) (hB : iB a) : iB a' := fun e he hb => by
  rw [h (16 + e) (by omega)] at hb
  rw [h (244 + e) (by omega), h (280 + e) (by omega)]
  exact hB e he hb
theorem iB_sm {a a' : eRow} (h : sm a a') (hB : iB a) : iB a' := iB_eq (fun i hi => h i (by omega)) hB
theorem iB_bg {a : eRow} (hB : iB a) : iB (bgA a) := iB_sm (sm_tr ba1_sm nwA_sm) hB
theorem iB_st {w h : Nat} (hw : w < 7) (hh : h < 7) : iB (stA w h) := iB_bg (iB_mk (a := zG w h) hw hh)
theorem iB_bk {a : eRow} {e : Nat} (he : e < 36) (h0 : a 0 < 7) (h1 : a 1 < 7) : iB (bkA a e) := iB_bg (iB_mk (by rw [up_ne (by omega)]; exact h0) (by rw [up_ne (by omega)]; exact h1))
theorem iB_ad {a : eRow} {cd L : Nat} (h : a 2 < 30) (hB : iB a) : iB (adA a cd L) := iB_bg (iB_eq (fun i hi => wd1_ne (by omega) (by omega) (by omega)) hB)
theorem iB_lv {a : eRow} {e v : Nat} (he : e < 36) (hB : iB a) : iB (lvA a e v) := iB_bg (iB_eq (fun i hi => up_ne (by omega)) hB)
theorem iB_gs {a : eRow} {k w : Nat} (hB : iB a) : iB (gsA a k w) := iB_sm (sm_tr psA_sm nwA_sm) hB
theorem iB_tb {a : eRow} (hB : iB a) : iB (tbA a) := iB_sm (sm_tr ppA_sm nwA_sm) hB
theorem iB_stp {a : eRow} (hB : iB a) : iB (stp a) := by
  unfold stp
  split
  · exact iB_gs hB
  · split
    · exact iB_tb hB
    · exact iB_sm up4_sm hB
theorem iB_sv : ∀ {d : Nat} {a : eRow}, iB a → iB (sv d a)
  | 0, _, h => h
  | d + 1, a, h => by
    show iB (bif cnS a then sv d (stp a) else a)
    cases cnS a with
    | true => exact iB_sv (iB_stp h)
    | false => exact h
theorem staS_iB {B : Nat → Nat} {n s e e' k : Nat} {a a' : eRow} (hI : iA a) (hB : iB a) (h : staS B n a s e k = .inr (a', e')) : iB a' := by
  have g0 := hI.1.1
  match k, h with
  | 0, h => cases h
  | 1, h =>
    obtain ⟨e1, hr⟩ := finS_b h
    cases hb : blkS B n a s e with
    | inl z => rw [hb] at hr; cases hr
    | inr q =>
      obtain ⟨⟨x, y⟩, e2⟩ := q
      rw [hb] at hr
      cases hr
      unfold blkS at hb
      split at hb
      · cases hb
      · have m := celS_b hb
        exact iB_bk (by omega) (by omega) (by omega)
  | 2, h =>
    obtain ⟨e1, hr⟩ := finS_b h
    cases hb : wrdS B n a s e with
    | inl z => rw [hb] at hr; cases hr
    | inr e2 =>
      rw [hb] at hr
      cases hr
      unfold wrdS at hb
      split at hb
      · cases hb
      · exact iB_ad (by omega) hB
  | 3, h =>
    obtain ⟨e1, hr⟩ := finS_b h
    cases hb : letS B n a e with
    | inl z => rw [hb] at hr; cases hr
    | inr q =>
      obtain ⟨⟨x, y⟩, ⟨v, e2⟩⟩ := q
      rw [hb] at hr
      cases hr
      unfold letS at hb
      cases hc : celS B n a e with
      | inl z => rw [hc] at hb; cases hb
      | inr q =>
        obtain ⟨⟨x', y'⟩, e3⟩ := q
        rw [hc] at hb
        dsimp only at hb
        have m := celS_b hc
        split at hb
        · cases hb; exact iB_lv (by omega) hB
        · cases hb
  | 4, h =>
    obtain ⟨e1, hr⟩ := finS_b h
    cases hb : gueS B n a e with
    | inl z => rw [hb] at hr; cases hr
    | inr q => obtain ⟨⟨k9, w9⟩, e2⟩ := q; rw [hb] at hr; cases hr; exact iB_gs hB
  | 5, h =>
    obtain ⟨e1, hr⟩ := finS_b h
    cases hb : bacS a s e with
    | inl z => rw [hb] at hr; cases hr
    | inr e2 => rw [hb] at hr; cases hr; exact iB_tb hB
  | 6, h =>
    obtain ⟨e1, hr⟩ := finS_b h
    cases hb : nuS B n e 0 201 2 with
    | inl z => rw [hb] at hr; cases hr
    | inr q => obtain ⟨v, e2⟩ := q; rw [hb] at hr; cases hr; exact iB_sv hB
  | k + 7, h => cases h
theorem runS_iB {B : Nat → Nat} {n : Nat} : ∀ (d : Nat) (a : eRow) (e : Nat), e ≤ n → iA a → iB a → iB (runS B n d a e).2
  | 0, _, _, _, _, h => h
  | d + 1, a, e, he, hI, hB => by
    unfold runS
    split
    · exact hB
    · cases hs : staS B n a (tkS B n e) (tkE B n e) (kwS B n e) with
      | inl z => exact hB
      | inr q =>
        obtain ⟨a', e'⟩ := q
        exact runS_iB d a' e' (staS_m (tkE_le he) hs).2 (staS_iA (tkE_le he) hI hs) (staS_iB hI hB hs)
theorem txS_iB {B : Nat → Nat} {n : Nat} {q : Option (Nat × Nat) × eRow} (h : txS B n = .inr q) : iB q.2 := by
  unfold txS at h
  cases hg : griS B n with
  | inl z => rw [hg] at h; cases h
  | inr r =>
    obtain ⟨⟨w, h9⟩, e⟩ := r
    rw [hg] at h
    cases h
    unfold griS at hg
    split at hg
    · cases h1 : nuS B n (tkE B n 0) 2 7 2 with
      | inl z => rw [h1] at hg; cases hg
      | inr x1 =>
        obtain ⟨w1, e1⟩ := x1
        rw [h1] at hg
        dsimp only at hg
        cases h2 : nuS B n e1 2 7 2 with
        | inl z => rw [h2] at hg; cases hg
        | inr x2 =>
          obtain ⟨w2, e2⟩ := x2
          rw [h2] at hg
          dsimp only at hg
          cases h3 : smS B n e2 with
          | inl z => rw [h3] at hg; cases hg
          | inr e3 =>
            rw [h3] at hg
            cases hg
            have b1 := nuS_b h1
            have b2 := nuS_b h2
            have m1 := tkE_le (B := B) (n := n) (e := 0) (Nat.zero_le n)
            have m3 := smS_e (nuS_m (nuS_m m1 h1).2 h2).2 h3
            exact runS_iB 600 (stA w h9) e m3.2 (iA_st ⟨b1.2.1, by omega⟩ ⟨b2.2.1, by omega⟩) (iB_st (by omega) (by omega))
    · cases hg
theorem su_b {a : eRow} {e : Nat} (hB : iB a) (he : e < 36) (h : a (16 + e) ≠ 0) : suA a e = 0 := by
  obtain ⟨h1, h2⟩ := hB e he h
  unfold suA
  rw [h1, h2]
  have e1 : suE a 0 = false := decide_eq_false (fun h => h.1 rfl)
  have e2 : suM a 0 e = 0 := if_pos rfl
  rw [e1, e2]
  decide +kernel
