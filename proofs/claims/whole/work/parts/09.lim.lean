/-! What eRun comes to: ev, and ev_eq: ev does one step and goes on. -/
def eLe (f g : eFn) : Prop := ∀ M pc ls st w r, f M pc ls st w = some r → g M pc ls st w = some r
noncomputable def ev : eFn := fun M pc ls st w => @dite _ (∃ r n, eRun n M pc ls st w = some r) (Classical.propDecidable _) (fun h => some (Classical.choose h)) (fun _ => none)
section Mono
variable {f g : eFn} {M pc len i a b n t dM dy cy y : Nat} {ls : eL} {st : List eV} {w : eW} {r : (Option eV ⊕ Nat) × eW}
theorem eBin_m {F : Int → Int → Int} (h : eLe f g) (q : eBin f M pc ls st w F = some r) : eBin g M pc ls st w F = some r := by
  unfold eBin at q ⊢; split at q <;> first | exact h _ _ _ _ _ _ q | cases q
theorem eIf_m {cd : ClassFile.Cond} {x y : Int} {t1 e1 t2 e2 : eRes} (ht : t1 = some r → t2 = some r) (he : e1 = some r → e2 = some r) (q : eIf cd x y t1 e1 = some r) : eIf cd x y t2 e2 = some r := by
  cases cd <;> (unfold eIf at q ⊢; dsimp only at q ⊢; split at q <;> rename_i hc <;> first | (rw [if_pos hc]; first | exact ht q | exact he q) | (rw [if_neg hc]; first | exact ht q | exact he q))
theorem eALd_m {ok : Nat → Bool} {mk : Int → eV} (h : eLe f g) (q : eALd f M pc ls st w ok mk = some r) : eALd g M pc ls st w ok mk = some r := by
  unfold eALd at q ⊢; split at q
  · split at q
    · simp only [Bool.cond_eq_ite] at q ⊢; split at q
      · rename_i h1; rw [if_pos h1]; split at q
        · rename_i h2; rw [if_pos h2]; exact h _ _ _ _ _ _ q
        · cases q
      · cases q
    · cases q
  · cases q
theorem eASt_m {ok : Nat → Bool} {j v : Int} (h : eLe f g) (q : eASt f M pc ls j v n st w ok = some r) : eASt g M pc ls j v n st w ok = some r := by
  unfold eASt at q ⊢; split at q
  · simp only [Bool.cond_eq_ite] at q ⊢; split at q
    · rename_i h1; rw [if_pos h1]; split at q
      · rename_i h2; rw [if_pos h2]; exact h _ _ _ _ _ _ q
      · cases q
    · cases q
  · cases q
theorem eBack_m {cat : Nat → Option (Option (Nat × Nat))} {u v : eRes} (h : eLe f g) (huv : ∀ r, u = some r → v = some r) (q : eBackW f M pc ls st cat u = some r) : eBackW g M pc ls st cat v = some r := by
  cases u with
  | none => cases q
  | some x =>
    rw [huv x rfl]
    obtain ⟨x, w'⟩ := x
    cases x with
    | inl o => cases o with
      | none => exact h _ _ _ _ _ _ q
      | some v => exact h _ _ _ _ _ _ q
    | inr E =>
      unfold eBackW at q ⊢; dsimp only at q ⊢
      split at q
      · exact q
      · cases q
      · exact h _ _ _ _ _ _ q
theorem eCallV_m {cat : Nat → Option (Option (Nat × Nat))} (h : eLe f g) (q : eCallW f f dM dy cy M pc y n ls st w cat = some r) : eCallW g g dM dy cy M pc y n ls st w cat = some r := by
  unfold eCallW at q ⊢; split at q
  · split at q
    · simp only [Bool.cond_eq_ite] at q ⊢; split at q
      · rename_i h1; rw [if_pos h1]; exact eBack_m h (fun _ => h _ _ _ _ _ _) q
      · cases q
    · cases q
  · cases q
theorem eGet_m (h : eLe f g) (q : eGet f M pc a b ls st w = some r) : eGet g M pc a b ls st w = some r := by
  unfold eGet at q ⊢; split at q
  · split at q
    · simp only [Bool.cond_eq_ite] at q ⊢; split at q
      · rename_i h1; rw [if_pos h1]; split at q
        · exact h _ _ _ _ _ _ q
        · cases q
      · cases q
    · cases q
  · cases q
theorem ePutf_m {z : Bool} (h : eLe f g) (q : ePutf f M pc a b z ls st w = some r) : ePutf g M pc a b z ls st w = some r := by
  unfold ePutf at q ⊢; split at q
  · split at q
    · simp only [Bool.cond_eq_ite] at q ⊢; split at q
      · rename_i h1; rw [if_pos h1]; exact h _ _ _ _ _ _ q
      · cases q
    · cases q
  · cases q
theorem eNewA_m (h : eLe f g) (q : eNewA f M pc len t ls st w = some r) : eNewA g M pc len t ls st w = some r := by
  unfold eNewA at q ⊢; split at q
  · split at q
    · rename_i h1; rw [if_pos h1]; exact h _ _ _ _ _ _ q
    · cases q
  · cases q
theorem eNewQ_m (h : eLe f g) (q : eNewQ f M pc ls st w = some r) : eNewQ g M pc ls st w = some r := by
  unfold eNewQ at q ⊢; split at q
  · split at q
    · rename_i h1; rw [if_pos h1]; exact h _ _ _ _ _ _ q
    · cases q
  · cases q
theorem eQLd_m (h : eLe f g) (q : eQLd f M pc ls st w = some r) : eQLd g M pc ls st w = some r := by
  unfold eQLd at q ⊢; split at q
  · split at q
    · split at q
      · rename_i h1; rw [if_pos h1]; exact h _ _ _ _ _ _ q
      · cases q
    · cases q
  · cases q
theorem eQSt_m (h : eLe f g) (q : eQSt f cy M pc ls st w = some r) : eQSt g cy M pc ls st w = some r := by
  unfold eQSt at q ⊢; split at q
  · split at q
    · split at q
      · simp only [Bool.cond_eq_ite] at q ⊢; split at q
        · rename_i h1; rw [if_pos h1]; split at q
          · rename_i h2; rw [if_pos h2]; exact h _ _ _ _ _ _ q
          · cases q
        · cases q
      · cases q
    · cases q
  · cases q
theorem eCopy_m (h : eLe f g) (q : eCopy f M pc ls st w = some r) : eCopy g M pc ls st w = some r := by
  unfold eCopy at q ⊢; split at q
  · split at q
    · split at q
      · simp only [Bool.cond_eq_ite] at q ⊢; split at q
        · rename_i h1; rw [if_pos h1]; split at q
          · rename_i h2; rw [if_pos h2]; exact h _ _ _ _ _ _ q
          · cases q
        · cases q
      · cases q
    · cases q
  · cases q
theorem eBr_m {cd : ClassFile.Cond} (h : eLe f g) (q : eBr f M pc a cd ls st w = some r) : eBr g M pc a cd ls st w = some r := by
  unfold eBr at q ⊢; split at q
  · exact eIf_m (h _ _ _ _ _ _) (h _ _ _ _ _ _) q
  · cases q
theorem eBr2_m {cd : ClassFile.Cond} (h : eLe f g) (q : eBr2 f M pc a cd ls st w = some r) : eBr2 g M pc a cd ls st w = some r := by
  unfold eBr2 at q ⊢; split at q
  · exact eIf_m (h _ _ _ _ _ _) (h _ _ _ _ _ _) q
  · cases q
theorem eBrN_m {z : Bool} (h : eLe f g) (q : eBrN f M pc a z ls st w = some r) : eBrN g M pc a z ls st w = some r := by
  unfold eBrN at q ⊢; split at q
  · exact h _ _ _ _ _ _ q
  · exact h _ _ _ _ _ _ q
  · cases q
theorem eStrOp_m (h : eLe f g) (q : eStrOp f M pc a ls st w = some r) : eStrOp g M pc a ls st w = some r := by
  unfold eStrOp at q ⊢; simp only [Bool.cond_eq_ite] at q ⊢; split at q
  · rename_i h1; rw [if_pos h1]; split at q
    · split at q
      · rename_i h2; rw [if_pos h2]; exact h _ _ _ _ _ _ q
      · cases q
    · cases q
  · rename_i h1; rw [if_neg h1]; split at q
    · rename_i h3; rw [if_pos h3]; split at q
      · split at q
        · rename_i h2; rw [if_pos h2]; split at q
          · rename_i h4; rw [if_pos h4]; exact h _ _ _ _ _ _ q
          · cases q
        · cases q
      · cases q
    · cases q
theorem eStaOp_m (h : eLe f g) (q : eStaOp f M pc a ls st w = some r) : eStaOp g M pc a ls st w = some r := by
  unfold eStaOp at q ⊢; simp only [Bool.cond_eq_ite] at q ⊢; split at q
  · rename_i h1; rw [if_pos h1]; split at q
    · split at q
      · rename_i h2; rw [if_pos h2]; exact h _ _ _ _ _ _ q
      · cases q
    · cases q
  · rename_i h1; rw [if_neg h1]; split at q
    · rename_i h3; rw [if_pos h3]; split at q
      · split at q
        · rename_i h2; rw [if_pos h2]; exact h _ _ _ _ _ _ q
        · cases q
      · cases q
    · rename_i h3; rw [if_neg h3]; split at q
      · rename_i h4; rw [if_pos h4]; exact eCopy_m h q
      · cases q
theorem eInit_m (h : eLe f g) (q : eInit f M pc ls st w = some r) : eInit g M pc ls st w = some r := by
  unfold eInit at q ⊢; split at q
  · simp only [Bool.cond_eq_ite] at q ⊢; split at q
    · rename_i h1; rw [if_pos h1]; exact h _ _ _ _ _ _ q
    · cases q
  · cases q
theorem eNew_m (h : eLe f g) (q : eNew f M pc a ls st w = some r) : eNew g M pc a ls st w = some r := by
  unfold eNew at q ⊢; simp only [Bool.cond_eq_ite] at q ⊢; split at q
  · rename_i h1; rw [if_pos h1]; exact h _ _ _ _ _ _ q
  · rename_i h1; rw [if_neg h1]; exact q
theorem eLoadK_m {k : Nat} (h : eLe f g) (q : eLoadK f k M pc len i ls st w = some r) : eLoadK g k M pc len i ls st w = some r := by
  unfold eLoadK at q ⊢; split at q
  · simp only [Bool.cond_eq_ite] at q ⊢; split at q
    · rename_i hc; rw [if_pos hc]; exact h _ _ _ _ _ _ q
    · cases q
  · cases q
theorem eStoreK_m {k : Nat} (h : eLe f g) (q : eStoreK f k M pc len i ls st w = some r) : eStoreK g k M pc len i ls st w = some r := by
  unfold eStoreK at q ⊢; split at q
  · simp only [Bool.cond_eq_ite] at q ⊢; split at q
    · rename_i hc; rw [if_pos hc]; exact h _ _ _ _ _ _ q
    · cases q
  · cases q
theorem eStoreD_m (h : eLe f g) (q : eStoreD f M pc len i ls st w = some r) : eStoreD g M pc len i ls st w = some r := by
  unfold eStoreD at q ⊢; split at q
  · simp only [Bool.cond_eq_ite] at q ⊢; split at q
    · rename_i hc; rw [if_pos hc]; exact h _ _ _ _ _ _ q
    · cases q
  · cases q
theorem eBack0_m {u v : eRes} (h : eLe f g) (huv : ∀ r, u = some r → v = some r) (q : eBack0 f M pc ls st u = some r) : eBack0 g M pc ls st v = some r := by
  cases u with
  | none => cases q
  | some x =>
    rw [huv x rfl]
    obtain ⟨x, w'⟩ := x
    cases x with
    | inl o => cases o with
      | none => exact h _ _ _ _ _ _ q
      | some v => exact h _ _ _ _ _ _ q
    | inr E => cases q
theorem eCallT_m (h : eLe f g) (q : eCallT f f dM dy M pc y n ls st w = some r) : eCallT g g dM dy M pc y n ls st w = some r := by
  unfold eCallT at q ⊢; split at q
  · simp only [Bool.cond_eq_ite] at q ⊢; split at q
    · rename_i h1; rw [if_pos h1]; exact eBack0_m h (fun _ => h _ _ _ _ _ _) q
    · cases q
  · cases q
theorem eCallI_m (h : eLe f g) (q : eCallI f f dM dy cy M pc y n ls st w = some r) : eCallI g g dM dy cy M pc y n ls st w = some r := by
  unfold eCallI at q ⊢; split at q
  · split at q
    · simp only [Bool.cond_eq_ite] at q ⊢; split at q
      · rename_i h1; rw [if_pos h1]; exact eBack0_m h (fun _ => h _ _ _ _ _ _) q
      · cases q
    · cases q
  · cases q
set_option maxHeartbeats 4000000 in
theorem eStep_m {ins : Instr} (h : eLe f g) (q : eStep f f f M pc ls st w ins len a b = some r) : eStep g g g M pc ls st w ins len a b = some r := by
  cases ins
  all_goals first
    | exact h _ _ _ _ _ _ q
    | exact q
    | exact eLoadK_m h q
    | exact eStoreK_m h q
    | exact eStoreD_m h q
    | exact eBin_m h q
    | exact eBr_m h q
    | exact eBr2_m h q
    | exact eBrN_m h q
    | exact eALd_m h q
    | exact eGet_m h q
    | exact ePutf_m h q
    | exact eNewQ_m h q
    | exact eQLd_m h q
    | exact eQSt_m h q
    | exact eNew_m h q
    | skip
  all_goals (try unfold eStep at q ⊢); (try dsimp only at q ⊢)
  all_goals try simp only [Bool.cond_eq_ite] at q ⊢
  all_goals (repeat' split at q)
  all_goals first
    | (cases q; done)
    | exact h _ _ _ _ _ _ q
    | exact eASt_m h q
    | exact eNewA_m h q
    | exact eALd_m (ok := eOkJ) (mk := fun x => .inr (.inr (.inl x))) h q
    | (simp only [*, if_true, if_false, reduceIte, Bool.false_eq_true]; first | exact h _ _ _ _ _ _ q | exact eASt_m h q | exact eCallT_m h q | exact eCallI_m h q | exact eCallV_m h q | exact eStaOp_m h q | exact eStrOp_m h q | exact eInit_m h q | exact eNewA_m h q)
    | skip
end Mono
theorem eBody_m {f g : eFn} (h : eLe f g) : eLe (eBody f f f) (eBody g g g) := by
  intro M pc ls st w r q
  unfold eBody at q ⊢
  split at q
  · exact eStep_m h q
  · cases q
theorem eRun_s : ∀ n, eLe (eRun n) (eRun (n + 1))
  | 0 => fun _ _ _ _ _ _ q => by cases q
  | n + 1 => eBody_m (eRun_s n)
theorem eRun_le {n k : Nat} (h : n ≤ k) : eLe (eRun n) (eRun k) := by
  induction h with
  | refl => exact fun _ _ _ _ _ _ q => q
  | step _ ih => exact fun _ _ _ _ _ _ q => eRun_s _ _ _ _ _ _ _ (ih _ _ _ _ _ _ q)
theorem ev_of {n M pc : Nat} {ls : eL} {st : List eV} {w : eW} {r : (Option eV ⊕ Nat) × eW} (h : eRun n M pc ls st w = some r) : ev M pc ls st w = some r := by
  have hx : ∃ r n, eRun n M pc ls st w = some r := ⟨r, n, h⟩
  unfold ev
  rw [dif_pos hx]
  obtain ⟨k, hk⟩ := Classical.choose_spec hx
  have h1 := eRun_le (Nat.le_max_left n k) _ _ _ _ _ _ h
  have h2 := eRun_le (Nat.le_max_right n k) _ _ _ _ _ _ hk
  rw [h1] at h2
  exact h2.symm
theorem ev_run {M pc : Nat} {ls : eL} {st : List eV} {w : eW} {r : (Option eV ⊕ Nat) × eW} (h : ev M pc ls st w = some r) : ∃ n, eRun n M pc ls st w = some r := by
  unfold ev at h
  split at h
  · rename_i hx
    rw [← h]
    exact Classical.choose_spec hx
  · cases h
section Cont
variable {M pc len i a b n t dM dy cy y : Nat} {ls : eL} {st : List eV} {w : eW} {r : (Option eV ⊕ Nat) × eW}
theorem eBin_c {F : Int → Int → Int} (q : eBin ev M pc ls st w F = some r) : ∃ k, eBin (eRun k) M pc ls st w F = some r := by
  unfold eBin at q ⊢; split at q <;> first | exact ev_run q | cases q
theorem eIf_c {cd : ClassFile.Cond} {x y : Int} {t1 e1 : eRes} {t2 e2 : Nat → eRes} (ht : t1 = some r → ∃ k, t2 k = some r) (he : e1 = some r → ∃ k, e2 k = some r) (q : eIf cd x y t1 e1 = some r) : ∃ k, eIf cd x y (t2 k) (e2 k) = some r := by
  cases cd <;> (unfold eIf at q ⊢; dsimp only at q ⊢; split at q <;> rename_i hc <;> first | (simp only [if_pos hc]; first | exact ht q | exact he q) | (simp only [if_neg hc]; first | exact ht q | exact he q))
theorem eALd_c {ok : Nat → Bool} {mk : Int → eV} (q : eALd ev M pc ls st w ok mk = some r) : ∃ k, eALd (eRun k) M pc ls st w ok mk = some r := by
  unfold eALd at q ⊢; split at q
  · split at q
    · simp only [Bool.cond_eq_ite] at q ⊢; split at q
      · rename_i h1; simp only [if_pos h1]; split at q
        · rename_i h2; simp only [if_pos h2]; exact ev_run q
        · cases q
      · cases q
    · cases q
  · cases q
theorem eASt_c {ok : Nat → Bool} {j v : Int} (q : eASt ev M pc ls j v n st w ok = some r) : ∃ k, eASt (eRun k) M pc ls j v n st w ok = some r := by
  unfold eASt at q ⊢; split at q
  · simp only [Bool.cond_eq_ite] at q ⊢; split at q
    · rename_i h1; simp only [if_pos h1]; split at q
      · rename_i h2; simp only [if_pos h2]; exact ev_run q
      · cases q
    · cases q
  · cases q
theorem eBack_c {cat : Nat → Option (Option (Nat × Nat))} {ls0 : eL} (q : eBackW ev M pc ls st cat (ev y 0 ls0 [] w) = some r) : ∃ k, eBackW (eRun k) M pc ls st cat (eRun k y 0 ls0 [] w) = some r := by
  cases hu : ev y 0 ls0 [] w with
  | none => rw [hu] at q; cases q
  | some x =>
    rw [hu] at q
    obtain ⟨n, hn⟩ := ev_run hu
    obtain ⟨x, w'⟩ := x
    have go : ∀ {M pc ls st w'} , ev M pc ls st w' = some r → ∃ k, n ≤ k ∧ eRun k M pc ls st w' = some r := fun q => by
      obtain ⟨k, hk⟩ := ev_run q
      exact ⟨max n k, Nat.le_max_left _ _, eRun_le (Nat.le_max_right _ _) _ _ _ _ _ _ hk⟩
    cases x with
    | inl o => cases o with
      | none => obtain ⟨k, h1, h2⟩ := go q; exact ⟨k, by rw [eRun_le h1 _ _ _ _ _ _ hn]; exact h2⟩
      | some v => obtain ⟨k, h1, h2⟩ := go q; exact ⟨k, by rw [eRun_le h1 _ _ _ _ _ _ hn]; exact h2⟩
    | inr E =>
      cases hc : cat E with
      | none => exact ⟨n, by rw [hn]; simp only [eBackW, hc] at q ⊢; exact q⟩
      | some o => cases o with
        | none => simp only [eBackW, hc] at q; cases q
        | some z =>
          obtain ⟨k9, p9⟩ := z
          simp only [eBackW, hc] at q
          obtain ⟨k, h1, h2⟩ := go q
          exact ⟨k, by rw [eRun_le h1 _ _ _ _ _ _ hn]; simp only [eBackW, hc]; exact h2⟩
theorem eCallV_c {cat : Nat → Option (Option (Nat × Nat))} (q : eCallW ev ev dM dy cy M pc y n ls st w cat = some r) : ∃ k, eCallW (eRun k) (eRun k) dM dy cy M pc y n ls st w cat = some r := by
  unfold eCallW at q ⊢; split at q
  · split at q
    · simp only [Bool.cond_eq_ite] at q ⊢; split at q
      · rename_i h1; simp only [if_pos h1]; exact eBack_c q
      · cases q
    · cases q
  · cases q
theorem eGet_c (q : eGet ev M pc a b ls st w = some r) : ∃ k, eGet (eRun k) M pc a b ls st w = some r := by
  unfold eGet at q ⊢; split at q
  · split at q
    · simp only [Bool.cond_eq_ite] at q ⊢; split at q
      · rename_i h1; simp only [if_pos h1]; split at q
        · exact ev_run q
        · cases q
      · cases q
    · cases q
  · cases q
theorem ePutf_c {z : Bool} (q : ePutf ev M pc a b z ls st w = some r) : ∃ k, ePutf (eRun k) M pc a b z ls st w = some r := by
  unfold ePutf at q ⊢; split at q
  · split at q
    · simp only [Bool.cond_eq_ite] at q ⊢; split at q
      · rename_i h1; simp only [if_pos h1]; exact ev_run q
      · cases q
    · cases q
  · cases q
theorem eNewA_c (q : eNewA ev M pc len t ls st w = some r) : ∃ k, eNewA (eRun k) M pc len t ls st w = some r := by
  unfold eNewA at q ⊢; split at q
  · split at q
    · rename_i h1; simp only [if_pos h1]; exact ev_run q
    · cases q
  · cases q
theorem eNewQ_c (q : eNewQ ev M pc ls st w = some r) : ∃ k, eNewQ (eRun k) M pc ls st w = some r := by
  unfold eNewQ at q ⊢; split at q
  · split at q
    · rename_i h1; simp only [if_pos h1]; exact ev_run q
    · cases q
  · cases q
theorem eQLd_c (q : eQLd ev M pc ls st w = some r) : ∃ k, eQLd (eRun k) M pc ls st w = some r := by
  unfold eQLd at q ⊢; split at q
  · split at q
    · split at q
      · rename_i h1; simp only [if_pos h1]; exact ev_run q
      · cases q
    · cases q
  · cases q
theorem eQSt_c (q : eQSt ev cy M pc ls st w = some r) : ∃ k, eQSt (eRun k) cy M pc ls st w = some r := by
  unfold eQSt at q ⊢; split at q
  · split at q
    · split at q
      · simp only [Bool.cond_eq_ite] at q ⊢; split at q
        · rename_i h1; simp only [if_pos h1]; split at q
          · rename_i h2; simp only [if_pos h2]; exact ev_run q
          · cases q
        · cases q
      · cases q
    · cases q
  · cases q
theorem eCopy_c (q : eCopy ev M pc ls st w = some r) : ∃ k, eCopy (eRun k) M pc ls st w = some r := by
  unfold eCopy at q ⊢; split at q
  · split at q
    · split at q
      · simp only [Bool.cond_eq_ite] at q ⊢; split at q
        · rename_i h1; simp only [if_pos h1]; split at q
          · rename_i h2; simp only [if_pos h2]; exact ev_run q
          · cases q
        · cases q
      · cases q
    · cases q
  · cases q
theorem eBr_c {cd : ClassFile.Cond} (q : eBr ev M pc a cd ls st w = some r) : ∃ k, eBr (eRun k) M pc a cd ls st w = some r := by
  unfold eBr at q ⊢; split at q
  · exact eIf_c ev_run ev_run q
  · cases q
theorem eBr2_c {cd : ClassFile.Cond} (q : eBr2 ev M pc a cd ls st w = some r) : ∃ k, eBr2 (eRun k) M pc a cd ls st w = some r := by
  unfold eBr2 at q ⊢; split at q
  · exact eIf_c ev_run ev_run q
  · cases q
theorem eBrN_c {z : Bool} (q : eBrN ev M pc a z ls st w = some r) : ∃ k, eBrN (eRun k) M pc a z ls st w = some r := by
  unfold eBrN at q ⊢; split at q
  · exact ev_run q
  · exact ev_run q
  · cases q
theorem eStrOp_c (q : eStrOp ev M pc a ls st w = some r) : ∃ k, eStrOp (eRun k) M pc a ls st w = some r := by
  unfold eStrOp at q ⊢; simp only [Bool.cond_eq_ite] at q ⊢; split at q
  · rename_i h1; simp only [if_pos h1]; split at q
    · split at q
      · rename_i h2; simp only [if_pos h2]; exact ev_run q
      · cases q
    · cases q
  · rename_i h1; simp only [if_neg h1]; split at q
    · rename_i h3; simp only [if_pos h3]; split at q
      · split at q
        · rename_i h2; simp only [if_pos h2]; split at q
          · rename_i h4; simp only [if_pos h4]; exact ev_run q
          · cases q
        · cases q
      · cases q
    · cases q
theorem eStaOp_c (q : eStaOp ev M pc a ls st w = some r) : ∃ k, eStaOp (eRun k) M pc a ls st w = some r := by
  unfold eStaOp at q ⊢; simp only [Bool.cond_eq_ite] at q ⊢; split at q
  · rename_i h1; simp only [if_pos h1]; split at q
    · split at q
      · rename_i h2; simp only [if_pos h2]; exact ev_run q
      · cases q
    · cases q
  · rename_i h1; simp only [if_neg h1]; split at q
    · rename_i h3; simp only [if_pos h3]; split at q
      · split at q
        · rename_i h2; simp only [if_pos h2]; exact ev_run q
        · cases q
      · cases q
    · rename_i h3; simp only [if_neg h3]; split at q
      · rename_i h4; simp only [if_pos h4]; exact eCopy_c q
      · cases q
theorem eInit_c (q : eInit ev M pc ls st w = some r) : ∃ k, eInit (eRun k) M pc ls st w = some r := by
  unfold eInit at q ⊢; split at q
  · simp only [Bool.cond_eq_ite] at q ⊢; split at q
    · rename_i h1; simp only [if_pos h1]; exact ev_run q
    · cases q
  · cases q
theorem eNew_c (q : eNew ev M pc a ls st w = some r) : ∃ k, eNew (eRun k) M pc a ls st w = some r := by
  unfold eNew at q ⊢; simp only [Bool.cond_eq_ite] at q ⊢; split at q
  · rename_i h1; simp only [if_pos h1]; exact ev_run q
  · rename_i h1; exact ⟨0, by rw [if_neg h1]; exact q⟩
theorem eLoadK_c {k : Nat} (q : eLoadK ev k M pc len i ls st w = some r) : ∃ k9, eLoadK (eRun k9) k M pc len i ls st w = some r := by
  unfold eLoadK at q ⊢; split at q
  · simp only [Bool.cond_eq_ite] at q ⊢; split at q
    · rename_i hc; simp only [if_pos hc]; exact ev_run q
    · cases q
  · cases q
theorem eStoreK_c {k : Nat} (q : eStoreK ev k M pc len i ls st w = some r) : ∃ k9, eStoreK (eRun k9) k M pc len i ls st w = some r := by
  unfold eStoreK at q ⊢; split at q
  · simp only [Bool.cond_eq_ite] at q ⊢; split at q
    · rename_i hc; simp only [if_pos hc]; exact ev_run q
    · cases q
  · cases q
theorem eStoreD_c (q : eStoreD ev M pc len i ls st w = some r) : ∃ k9, eStoreD (eRun k9) M pc len i ls st w = some r := by
  unfold eStoreD at q ⊢; split at q
  · simp only [Bool.cond_eq_ite] at q ⊢; split at q
    · rename_i hc; simp only [if_pos hc]; exact ev_run q
    · cases q
  · cases q
theorem eBack0_c {ls0 : eL} (q : eBack0 ev M pc ls st (ev y 0 ls0 [] w) = some r) : ∃ k, eBack0 (eRun k) M pc ls st (eRun k y 0 ls0 [] w) = some r := by
  cases hu : ev y 0 ls0 [] w with
  | none => rw [hu] at q; cases q
  | some x =>
    rw [hu] at q
    obtain ⟨n, hn⟩ := ev_run hu
    obtain ⟨x, w'⟩ := x
    have go : ∀ {M pc ls st w'} , ev M pc ls st w' = some r → ∃ k, n ≤ k ∧ eRun k M pc ls st w' = some r := fun q => by
      obtain ⟨k, hk⟩ := ev_run q
      exact ⟨max n k, Nat.le_max_left _ _, eRun_le (Nat.le_max_right _ _) _ _ _ _ _ _ hk⟩
    cases x with
    | inl o => cases o with
      | none => obtain ⟨k, h1, h2⟩ := go q; exact ⟨k, by rw [eRun_le h1 _ _ _ _ _ _ hn]; exact h2⟩
      | some v => obtain ⟨k, h1, h2⟩ := go q; exact ⟨k, by rw [eRun_le h1 _ _ _ _ _ _ hn]; exact h2⟩
    | inr E => cases q
theorem eCallT_c (q : eCallT ev ev dM dy M pc y n ls st w = some r) : ∃ k9, eCallT (eRun k9) (eRun k9) dM dy M pc y n ls st w = some r := by
  unfold eCallT at q ⊢; split at q
  · simp only [Bool.cond_eq_ite] at q ⊢; split at q
    · rename_i h1; simp only [if_pos h1]; exact eBack0_c q
    · cases q
  · cases q
theorem eCallI_c (q : eCallI ev ev dM dy cy M pc y n ls st w = some r) : ∃ k9, eCallI (eRun k9) (eRun k9) dM dy cy M pc y n ls st w = some r := by
  unfold eCallI at q ⊢; split at q
  · split at q
    · simp only [Bool.cond_eq_ite] at q ⊢; split at q
      · rename_i h1; simp only [if_pos h1]; exact eBack0_c q
      · cases q
    · cases q
  · cases q
set_option maxHeartbeats 4000000 in
theorem eStep_c {ins : Instr} (q : eStep ev ev ev M pc ls st w ins len a b = some r) : ∃ k, eStep (eRun k) (eRun k) (eRun k) M pc ls st w ins len a b = some r := by
  cases ins
  all_goals first
    | exact ev_run q
    | exact ⟨0, q⟩
    | exact eLoadK_c q
    | exact eStoreK_c q
    | exact eStoreD_c q
    | exact eBin_c q
    | exact eBr_c q
    | exact eBr2_c q
    | exact eBrN_c q
    | exact eALd_c q
    | exact eGet_c q
    | exact ePutf_c q
    | exact eNewQ_c q
    | exact eQLd_c q
    | exact eQSt_c q
    | exact eNew_c q
    | skip
  all_goals (try unfold eStep at q ⊢); (try dsimp only at q ⊢)
  all_goals try simp only [Bool.cond_eq_ite] at q ⊢
  all_goals (repeat' split at q)
  all_goals first
    | (cases q; done)
    | exact ev_run q
    | exact eASt_c q
    | exact eNewA_c q
    | exact eALd_c (ok := eOkJ) (mk := fun x => .inr (.inr (.inl x))) q
    | (simp only [*, if_true, if_false, reduceIte, Bool.false_eq_true]; first | exact ev_run q | exact eASt_c q | exact eCallT_c q | exact eCallI_c q | exact eCallV_c q | exact eStaOp_c q | exact eStrOp_c q | exact eInit_c q | exact eNewA_c q)
    | skip
end Cont
theorem ev_eq (M pc : Nat) (ls : eL) (st : List eV) (w : eW) : ev M pc ls st w = eBody ev ev ev M pc ls st w := by
  have h1 : ∀ r, ev M pc ls st w = some r → eBody ev ev ev M pc ls st w = some r := fun r h => by
    obtain ⟨n, hn⟩ := ev_run h
    cases n with
    | zero => cases hn
    | succ n => exact eBody_m (fun _ _ _ _ _ _ q => ev_of q) _ _ _ _ _ _ hn
  have h2 : ∀ r, eBody ev ev ev M pc ls st w = some r → ev M pc ls st w = some r := fun r h => by
    have h3 : ∃ k, eBody (eRun k) (eRun k) (eRun k) M pc ls st w = some r := by
      unfold eBody at h ⊢
      split at h
      · exact eStep_c h
      · cases h
    obtain ⟨k, hk⟩ := h3
    exact ev_of (n := k + 1) hk
  cases hv : ev M pc ls st w with
  | some r => exact (h1 r hv).symm
  | none =>
    cases hb : eBody ev ev ev M pc ls st w with
    | none => rfl
    | some r => rw [h2 r hb] at hv; cases hv
/-- k steps at once, no further than the places where 'stop' says so -/
noncomputable def evN (stop : Nat → Bool) : Nat → eFn
  | 0 => ev
  | k + 1 => fun M pc ls st w => eBody (fun M pc ls st w => bif stop pc then ev M pc ls st w else evN stop k M pc ls st w) ev ev M pc ls st w
theorem evN_eq (stop : Nat → Bool) : ∀ k, evN stop k = ev
  | 0 => rfl
  | k + 1 => by
    funext M pc ls st w
    rw [ev_eq]
    show eBody (fun M pc ls st w => bif stop pc then ev M pc ls st w else evN stop k M pc ls st w) ev ev M pc ls st w = _
    rw [evN_eq stop k]
    have h : (fun M pc ls st w => bif stop pc then ev M pc ls st w else ev M pc ls st w) = ev := by
      funext M pc ls st w
      cases stop pc <;> rfl
    rw [h]
theorem eSeg (stop : Nat → Bool) (k : Nat) {M pc : Nat} {ls : eL} {st : List eV} {w : eW} {r : eRes} (h : evN stop k M pc ls st w = r) : ev M pc ls st w = r := (congrFun (congrFun (congrFun (congrFun (congrFun (evN_eq stop k) M) pc) ls) st) w).symm.trans h
