/-! The word of the row that the text tells: the model's and the class's answer. -/
theorem wd_eq {a : eRow} {B : Nat → Nat} {S L k : Nat} (hV : iV a) (hk : k < a 2) (h : ∀ q, q < L → 97 ≤ B (S + q) ∧ B (S + q) ≤ 122) (h2 : 2 ≤ L) (h6 : L ≤ 6) : decide (a (88 + k) = cdF B S L) = (decide (wl a k = L) && allN (fun p => decide (B (S + p) = 97 + lt a k p)) L) := by
  have hq := cd_eq hV hk (cdF_ok h h2 h6)
  obtain ⟨v1, v2, v3, v5⟩ := hV.2 k hk
  by_cases he : a (88 + k) = cdF B S L
  · rw [decide_eq_true he]
    obtain ⟨q1, q2⟩ := hq.mp he
    rw [decide_eq_true q1, Bool.true_and]
    refine (allN_iff.mpr (fun p hp => decide_eq_true ?_)).symm
    have q3 := q2 p hp
    rw [cdF_dig h hp] at q3
    have q4 := h p hp
    unfold lt
    omega
  · rw [decide_eq_false he]
    refine (Bool.eq_false_iff.mpr (fun hb => he (hq.mpr ?_))).symm
    obtain ⟨b1, b2⟩ := Bool.and_eq_true_iff.mp hb
    have b3 := of_decide_eq_true b1
    refine ⟨b3, fun p hp => ?_⟩
    have b4 := of_decide_eq_true (allN_iff.mp b2 p hp)
    rw [cdF_dig h hp]
    have q4 := v5 p (by omega)
    unfold lt at b4
    omega
