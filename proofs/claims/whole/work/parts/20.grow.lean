/-! What is made only grows; the walk of every method; what every method owes. -/
def eGr (f : eFn) : Prop := ∀ M pc ls st w r, f M pc ls st w = some r → w.2.1 ≤ r.2.2.1 ∧ w.2.2 ≤ r.2.2.2
section Grow
variable {f : eFn} {M pc len i a b n t dM dy cy y : Nat} {ls : eL} {st : List eV} {w : eW} {r : (Option eV ⊕ Nat) × eW}
theorem eGr_set {w1 : List eC} (h : eGr f) (q : f M pc ls st (w1, w.2) = some r) : w.2.1 ≤ r.2.2.1 ∧ w.2.2 ≤ r.2.2.2 := h M pc ls st (w1, w.2) r q
theorem eBin_g {F : Int → Int → Int} (h : eGr f) (q : eBin f M pc ls st w F = some r) : w.2.1 ≤ r.2.2.1 ∧ w.2.2 ≤ r.2.2.2 := by
  unfold eBin at q; split at q <;> first | exact h _ _ _ _ _ _ q | cases q
theorem eIf_g {P : Prop} {cd : ClassFile.Cond} {x y : Int} {t1 e1 : eRes} (ht : t1 = some r → P) (he : e1 = some r → P) (q : eIf cd x y t1 e1 = some r) : P := by
  cases cd <;> (unfold eIf at q; dsimp only at q; split at q <;> first | exact ht q | exact he q)
theorem eALd_g {ok : Nat → Bool} {mk : Int → eV} (h : eGr f) (q : eALd f M pc ls st w ok mk = some r) : w.2.1 ≤ r.2.2.1 ∧ w.2.2 ≤ r.2.2.2 := by
  unfold eALd at q; simp only [Bool.cond_eq_ite] at q; (repeat' split at q) <;> first | exact h _ _ _ _ _ _ q | cases q
theorem eASt_g {ok : Nat → Bool} {j v : Int} (h : eGr f) (q : eASt f M pc ls j v n st w ok = some r) : w.2.1 ≤ r.2.2.1 ∧ w.2.2 ≤ r.2.2.2 := by
  unfold eASt at q; simp only [Bool.cond_eq_ite] at q; (repeat' split at q) <;> first | exact eGr_set h q | cases q
theorem eBackW_g {cat : Nat → Option (Option (Nat × Nat))} {u : eRes} (h : eGr f) (hu : ∀ r, u = some r → w.2.1 ≤ r.2.2.1 ∧ w.2.2 ≤ r.2.2.2) (q : eBackW f M pc ls st cat u = some r) : w.2.1 ≤ r.2.2.1 ∧ w.2.2 ≤ r.2.2.2 := by
  have tr : ∀ {w1 : eW}, (w.2.1 ≤ w1.2.1 ∧ w.2.2 ≤ w1.2.2) → (w1.2.1 ≤ r.2.2.1 ∧ w1.2.2 ≤ r.2.2.2) → w.2.1 ≤ r.2.2.1 ∧ w.2.2 ≤ r.2.2.2 := fun h1 h2 => ⟨Nat.le_trans h1.1 h2.1, Nat.le_trans h1.2 h2.2⟩
  unfold eBackW at q; split at q
  · exact tr (hu _ rfl) (h _ _ _ _ _ _ q)
  · exact tr (hu _ rfl) (h _ _ _ _ _ _ q)
  · split at q
    · have := hu _ rfl
      obtain rfl := Option.some.inj q
      exact this
    · cases q
    · exact tr (hu _ rfl) (h _ _ _ _ _ _ q)
  · cases q
theorem eCallW_g {cat : Nat → Option (Option (Nat × Nat))} (h : eGr f) (q : eCallW f f dM dy cy M pc y n ls st w cat = some r) : w.2.1 ≤ r.2.2.1 ∧ w.2.2 ≤ r.2.2.2 := by
  unfold eCallW at q; simp only [Bool.cond_eq_ite] at q; (repeat' split at q) <;> first | exact eBackW_g h (fun _ => h _ _ _ _ _ _) q | cases q
theorem eBack0_g {u : eRes} (h : eGr f) (hu : ∀ r, u = some r → w.2.1 ≤ r.2.2.1 ∧ w.2.2 ≤ r.2.2.2) (q : eBack0 f M pc ls st u = some r) : w.2.1 ≤ r.2.2.1 ∧ w.2.2 ≤ r.2.2.2 := by
  have tr : ∀ {w1 : eW}, (w.2.1 ≤ w1.2.1 ∧ w.2.2 ≤ w1.2.2) → (w1.2.1 ≤ r.2.2.1 ∧ w1.2.2 ≤ r.2.2.2) → w.2.1 ≤ r.2.2.1 ∧ w.2.2 ≤ r.2.2.2 := fun h1 h2 => ⟨Nat.le_trans h1.1 h2.1, Nat.le_trans h1.2 h2.2⟩
  unfold eBack0 at q; split at q
  · exact tr (hu _ rfl) (h _ _ _ _ _ _ q)
  · exact tr (hu _ rfl) (h _ _ _ _ _ _ q)
  · cases q
theorem eCallT_g (h : eGr f) (q : eCallT f f dM dy M pc y n ls st w = some r) : w.2.1 ≤ r.2.2.1 ∧ w.2.2 ≤ r.2.2.2 := by
  unfold eCallT at q; simp only [Bool.cond_eq_ite] at q; (repeat' split at q) <;> first | exact eBack0_g h (fun _ => h _ _ _ _ _ _) q | cases q
theorem eCallI_g (h : eGr f) (q : eCallI f f dM dy cy M pc y n ls st w = some r) : w.2.1 ≤ r.2.2.1 ∧ w.2.2 ≤ r.2.2.2 := by
  unfold eCallI at q; simp only [Bool.cond_eq_ite] at q; (repeat' split at q) <;> first | exact eBack0_g h (fun _ => h _ _ _ _ _ _) q | cases q
theorem eGet_g (h : eGr f) (q : eGet f M pc a b ls st w = some r) : w.2.1 ≤ r.2.2.1 ∧ w.2.2 ≤ r.2.2.2 := by
  unfold eGet at q; simp only [Bool.cond_eq_ite] at q; (repeat' split at q) <;> first | exact h _ _ _ _ _ _ q | cases q
theorem ePutf_g {z : Bool} (h : eGr f) (q : ePutf f M pc a b z ls st w = some r) : w.2.1 ≤ r.2.2.1 ∧ w.2.2 ≤ r.2.2.2 := by
  unfold ePutf at q; simp only [Bool.cond_eq_ite] at q; (repeat' split at q) <;> first | exact eGr_set h q | cases q
theorem eGr_mk {w1 : List eC} {k m : Nat} (h : eGr f) (q : f M pc ls st (w1, (w.2.1 + k, w.2.2 + m)) = some r) : w.2.1 ≤ r.2.2.1 ∧ w.2.2 ≤ r.2.2.2 := by
  have := h _ _ _ _ _ _ q
  dsimp only at this
  omega
theorem eNewA_g (h : eGr f) (q : eNewA f M pc len t ls st w = some r) : w.2.1 ≤ r.2.2.1 ∧ w.2.2 ≤ r.2.2.2 := by
  unfold eNewA at q; (repeat' split at q) <;> first | exact eGr_mk h q | cases q
theorem eNewQ_g (h : eGr f) (q : eNewQ f M pc ls st w = some r) : w.2.1 ≤ r.2.2.1 ∧ w.2.2 ≤ r.2.2.2 := by
  unfold eNewQ at q; (repeat' split at q) <;> first | exact eGr_mk h q | cases q
theorem eQLd_g (h : eGr f) (q : eQLd f M pc ls st w = some r) : w.2.1 ≤ r.2.2.1 ∧ w.2.2 ≤ r.2.2.2 := by
  unfold eQLd at q; (repeat' split at q) <;> first | exact h _ _ _ _ _ _ q | cases q
theorem eQSt_g (h : eGr f) (q : eQSt f cy M pc ls st w = some r) : w.2.1 ≤ r.2.2.1 ∧ w.2.2 ≤ r.2.2.2 := by
  unfold eQSt at q; simp only [Bool.cond_eq_ite] at q; (repeat' split at q) <;> first | exact eGr_set h q | cases q
theorem eCopy_g (h : eGr f) (q : eCopy f M pc ls st w = some r) : w.2.1 ≤ r.2.2.1 ∧ w.2.2 ≤ r.2.2.2 := by
  unfold eCopy at q; simp only [Bool.cond_eq_ite] at q; (repeat' split at q) <;> first | exact eGr_set h q | cases q
theorem eBr_g {cd : ClassFile.Cond} (h : eGr f) (q : eBr f M pc a cd ls st w = some r) : w.2.1 ≤ r.2.2.1 ∧ w.2.2 ≤ r.2.2.2 := by
  unfold eBr at q; split at q
  · exact eIf_g (h _ _ _ _ _ _) (h _ _ _ _ _ _) q
  · cases q
theorem eBr2_g {cd : ClassFile.Cond} (h : eGr f) (q : eBr2 f M pc a cd ls st w = some r) : w.2.1 ≤ r.2.2.1 ∧ w.2.2 ≤ r.2.2.2 := by
  unfold eBr2 at q; split at q
  · exact eIf_g (h _ _ _ _ _ _) (h _ _ _ _ _ _) q
  · cases q
theorem eBrN_g {z : Bool} (h : eGr f) (q : eBrN f M pc a z ls st w = some r) : w.2.1 ≤ r.2.2.1 ∧ w.2.2 ≤ r.2.2.2 := by
  unfold eBrN at q; split at q <;> first | exact h _ _ _ _ _ _ q | cases q
theorem eStrOp_g (h : eGr f) (q : eStrOp f M pc a ls st w = some r) : w.2.1 ≤ r.2.2.1 ∧ w.2.2 ≤ r.2.2.2 := by
  unfold eStrOp at q; simp only [Bool.cond_eq_ite] at q; (repeat' split at q) <;> first | exact h _ _ _ _ _ _ q | cases q
theorem eStaOp_g (h : eGr f) (q : eStaOp f M pc a ls st w = some r) : w.2.1 ≤ r.2.2.1 ∧ w.2.2 ≤ r.2.2.2 := by
  unfold eStaOp at q; simp only [Bool.cond_eq_ite] at q; (repeat' split at q) <;> first | exact h _ _ _ _ _ _ q | exact eCopy_g h q | cases q
theorem eInit_g (h : eGr f) (q : eInit f M pc ls st w = some r) : w.2.1 ≤ r.2.2.1 ∧ w.2.2 ≤ r.2.2.2 := by
  unfold eInit at q; simp only [Bool.cond_eq_ite] at q; (repeat' split at q) <;> first | exact h _ _ _ _ _ _ q | cases q
theorem eNew_g (h : eGr f) (q : eNew f M pc a ls st w = some r) : w.2.1 ≤ r.2.2.1 ∧ w.2.2 ≤ r.2.2.2 := by
  unfold eNew at q; simp only [Bool.cond_eq_ite] at q; split at q
  · exact eGr_mk h q
  · split at q
    · obtain rfl := Option.some.inj q
      dsimp only
      omega
    · cases q
theorem eLoadK_g {k : Nat} (h : eGr f) (q : eLoadK f k M pc len i ls st w = some r) : w.2.1 ≤ r.2.2.1 ∧ w.2.2 ≤ r.2.2.2 := by
  unfold eLoadK at q; simp only [Bool.cond_eq_ite] at q; (repeat' split at q) <;> first | exact h _ _ _ _ _ _ q | cases q
theorem eStoreK_g {k : Nat} (h : eGr f) (q : eStoreK f k M pc len i ls st w = some r) : w.2.1 ≤ r.2.2.1 ∧ w.2.2 ≤ r.2.2.2 := by
  unfold eStoreK at q; simp only [Bool.cond_eq_ite] at q; (repeat' split at q) <;> first | exact h _ _ _ _ _ _ q | cases q
theorem eStoreD_g (h : eGr f) (q : eStoreD f M pc len i ls st w = some r) : w.2.1 ≤ r.2.2.1 ∧ w.2.2 ≤ r.2.2.2 := by
  unfold eStoreD at q; simp only [Bool.cond_eq_ite] at q; (repeat' split at q) <;> first | exact h _ _ _ _ _ _ q | cases q
theorem eRet_g {u : Option eV ⊕ Nat} (q : some (u, w) = some r) : w.2.1 ≤ r.2.2.1 ∧ w.2.2 ≤ r.2.2.2 := by
  obtain rfl := Option.some.inj q
  exact ⟨Nat.le_refl _, Nat.le_refl _⟩
theorem eRetI_g (q : eRetI M st w = some r) : w.2.1 ≤ r.2.2.1 ∧ w.2.2 ≤ r.2.2.2 := by
  unfold eRetI at q; simp only [Bool.cond_eq_ite] at q; (repeat' split at q) <;> first | exact eRet_g q | cases q
theorem eRetA_g (q : eRetA M st w = some r) : w.2.1 ≤ r.2.2.1 ∧ w.2.2 ≤ r.2.2.2 := by
  unfold eRetA at q; simp only [Bool.cond_eq_ite] at q; (repeat' split at q) <;> first | exact eRet_g q | cases q
theorem eRetF_g (q : eRetF M st w = some r) : w.2.1 ≤ r.2.2.1 ∧ w.2.2 ≤ r.2.2.2 := by
  unfold eRetF at q; simp only [Bool.cond_eq_ite] at q; (repeat' split at q) <;> first | exact eRet_g q | cases q
theorem eRetD_g (q : eRetD M st w = some r) : w.2.1 ≤ r.2.2.1 ∧ w.2.2 ≤ r.2.2.2 := by
  unfold eRetD at q; simp only [Bool.cond_eq_ite] at q; (repeat' split at q) <;> first | exact eRet_g q | cases q
theorem eRetV_g (q : eRetV M st w = some r) : w.2.1 ≤ r.2.2.1 ∧ w.2.2 ≤ r.2.2.2 := by
  unfold eRetV at q; simp only [Bool.cond_eq_ite] at q; (repeat' split at q) <;> first | exact eRet_g q | cases q
set_option maxHeartbeats 4000000 in
theorem eStep_g {ins : Instr} (h : eGr f) (q : eStep f f f M pc ls st w ins len a b = some r) : w.2.1 ≤ r.2.2.1 ∧ w.2.2 ≤ r.2.2.2 := by
  cases ins
  all_goals first
    | exact h _ _ _ _ _ _ q
    | exact eLoadK_g h q
    | exact eStoreK_g h q
    | exact eStoreD_g h q
    | exact eBin_g h q
    | exact eBr_g h q
    | exact eBr2_g h q
    | exact eBrN_g h q
    | exact eALd_g h q
    | exact eGet_g h q
    | exact ePutf_g h q
    | exact eNewQ_g h q
    | exact eQLd_g h q
    | exact eQSt_g h q
    | exact eNew_g h q
    | exact eRetI_g q
    | exact eRetA_g q
    | exact eRetF_g q
    | exact eRetD_g q
    | exact eRetV_g q
    | skip
  all_goals (try unfold eStep at q); (try dsimp only at q)
  all_goals try simp only [Bool.cond_eq_ite] at q
  all_goals (repeat' split at q)
  all_goals first
    | (cases q; done)
    | exact h _ _ _ _ _ _ q
    | exact eASt_g h q
    | exact eNewA_g h q
    | exact eALd_g (ok := eOkJ) (mk := fun x => .inr (.inr (.inl x))) h q
    | exact eCallT_g h q
    | exact eCallI_g h q
    | exact eCallW_g h q
    | exact eStaOp_g h q
    | exact eStrOp_g h q
    | exact eInit_g h q
    | skip
end Grow
theorem eRun_g : ∀ n, eGr (eRun n)
  | 0 => fun _ _ _ _ _ _ q => by cases q
  | n + 1 => by
    intro M pc ls st w r q
    have q : eBody (eRun n) (eRun n) (eRun n) M pc ls st w = some r := q
    unfold eBody at q
    split at q
    · exact eStep_g (eRun_g n) q
    · cases q
