/-! One step in the small world is one step in the other. -/
section T
variable {σ : Nat → eV} {f : eFn} {M pc len i a b n t dM dy cy y : Nat} {ls ls' : eL} {st st' : List eV} {W V : List eC} {c d : Nat × Nat} {α : List Nat} {r : (Option eV ⊕ Nat) × eW}
theorem tBin {F : Int → Int → Int} (hg : tGood σ f) (hw : tW σ α W V) (hl : tL σ α ls ls') (hs : tS σ α st st') (q : eBin f M pc ls st (W, c) F = some r) : tP σ α W V c d r (eBin f M pc ls' st' (V, d) F) := by
  unfold eBin at q; split at q
  · obtain ⟨_, _, rfl, rfl, hs1⟩ := tS_inv hs
    obtain ⟨_, _, rfl, rfl, hs2⟩ := tS_inv hs1
    exact hg _ _ _ _ _ _ _ q _ _ _ _ _ hw hl ⟨rfl, hs2⟩
  · cases q
theorem tIf {cd : ClassFile.Cond} {x y : Int} {t1 e1 t2 e2 : eRes} {P : eRes → Prop} (ht : t1 = some r → P t2) (he : e1 = some r → P e2) (q : eIf cd x y t1 e1 = some r) : P (eIf cd x y t2 e2) := by
  cases cd <;> (unfold eIf at q ⊢; dsimp only at q ⊢; split at q <;> rename_i hc <;> first | (rw [if_pos hc]; first | exact ht q | exact he q) | (rw [if_neg hc]; first | exact ht q | exact he q))
theorem tALd {ok : Nat → Bool} {mk : Int → eV} (hok : ok 77 = false) (hmk : ∀ x, tV σ α (mk x) (mk x)) (hg : tGood σ f) (hw : tW σ α W V) (hl : tL σ α ls ls') (hs : tS σ α st st') (q : eALd f M pc ls st (W, c) ok mk = some r) : tP σ α W V c d r (eALd f M pc ls' st' (V, d) ok mk) := by
  unfold eALd at q; split at q
  · obtain ⟨_, _, rfl, rfl, hs1⟩ := tS_inv hs
    obtain ⟨_, _, rfl, ⟨a1, ha, rfl⟩, hs2⟩ := tS_inv hs1
    dsimp only at q
    split at q
    · rename_i t n g hc
      simp only [Bool.cond_eq_ite] at q; split at q
      · rename_i h1
        split at q
        · rename_i h2
          obtain ⟨k', c', e1, e2, e3⟩ := tW_get hw hc
          cases ha.symm.trans e1
          rcases e3 with rfl | rfl
          · rw [hok] at h1; cases h1
          · unfold eALd
            dsimp only
            rw [e2]
            dsimp only
            rw [h1, cond_true, if_pos h2]
            exact hg _ _ _ _ _ _ _ q _ _ _ _ _ hw hl ⟨hmk _, hs2⟩
        · cases q
      · cases q
    · cases q
  · cases q
theorem tTg_t {n' : Nat} (hw : tW σ α W V) (hn : α[n]? = some n') (h : eTg (W, c) n = true) : eTg (V, d) n' = true := by
  unfold eTg at h ⊢; dsimp only at h ⊢; split at h
  · rename_i t m g hc
    obtain ⟨k', c', e1, e2, e3⟩ := tW_get hw hc
    cases hn.symm.trans e1
    rcases e3 with rfl | rfl
    · cases h
    · rw [e2]; exact h
  · cases h
theorem tTg_f {j v : Int} {n' : Nat} (hw : tW σ α W V) (hn : α[n]? = some n') (q : eASt f M pc ls j v n st (W, c) eOk2 = some r) : ¬ eTg (V, d) n' = true := by
  unfold eASt at q; dsimp only at q; split at q
  · rename_i t m g hc
    simp only [Bool.cond_eq_ite] at q; split at q
    · rename_i h1
      obtain ⟨k', c', e1, e2, e3⟩ := tW_get hw hc
      cases hn.symm.trans e1
      have h2 : t = 2 := Nat.eq_of_beq_eq_true h1
      subst h2
      rcases e3 with h3 | rfl
      · exact absurd h3 (by decide)
      · unfold eTg; dsimp only; rw [e2]; exact fun z => Bool.false_ne_true z
    · cases q
  · cases q
theorem tASt {ok : Nat → Bool} {j v : Int} {n' : Nat} (hok : ok 77 = false) (hg : tGood σ f) (hw : tW σ α W V) (hl : tL σ α ls ls') (hs : tS σ α st st') (hn : α[n]? = some n') (q : eASt f M pc ls j v n st (W, c) ok = some r) : tP σ α W V c d r (eASt f M pc ls' j v n' st' (V, d) ok) := by
  unfold eASt at q; dsimp only at q; split at q
  · rename_i t m g hc
    simp only [Bool.cond_eq_ite] at q; split at q
    · rename_i h1
      split at q
      · rename_i h2
        obtain ⟨k', c', e1, e2, e3⟩ := tW_get hw hc
        cases hn.symm.trans e1
        have h77 : t ≠ 77 := fun e => by subst e; rw [hok] at h1; cases h1
        have hj : Nat.beq t 77 = false := by
          cases hb : Nat.beq t 77 with
          | false => rfl
          | true => exact absurd (Nat.eq_of_beq_eq_true hb) h77
        rcases e3 with rfl | rfl
        · exact absurd rfl h77
        · unfold eASt
          dsimp only
          rw [e2]
          dsimp only
          rw [h1, cond_true, if_pos h2]
          have hm := tM_set (c := c) (d := d) (c1 := .inl (t, (m, eUp g (wr j).toNat v))) (c2 := .inl (t, (m, eUp g (wr j).toNat v))) hw hc hn hj hj (Or.inr rfl)
          have hq := hg _ _ _ _ _ _ _ q (α ++ []) (eSet V n' (.inl (t, (m, eUp g (wr j).toNat v)))) d ls' st' hm.1 (tL_mono hl) (tS_mono hs)
          exact tP_of hw hm hq
      · cases q
    · cases q
  · cases q
theorem tGet (hg : tGood σ f) (hw : tW σ α W V) (hl : tL σ α ls ls') (hs : tS σ α st st') (q : eGet f M pc a b ls st (W, c) = some r) : tP σ α W V c d r (eGet f M pc a b ls' st' (V, d)) := by
  unfold eGet at q; split at q
  · obtain ⟨_, _, rfl, ⟨a1, ha, rfl⟩, hs1⟩ := tS_inv hs
    dsimp only at q
    split at q
    · rename_i k fs hc
      simp only [Bool.cond_eq_ite] at q; split at q
      · rename_i h1
        split at q
        · rename_i v hv
          obtain ⟨k', c', e1, e2, ⟨gs, rfl, hgs⟩⟩ := tW_get hw hc
          cases ha.symm.trans e1
          obtain ⟨v', g1, g2⟩ := tS_nth hgs hv
          unfold eGet
          dsimp only
          rw [e2]
          dsimp only
          rw [h1, cond_true, g1]
          exact hg _ _ _ _ _ _ _ q _ _ _ _ _ hw hl ⟨g2, hs1⟩
        · cases q
      · cases q
    · cases q
  · cases q
theorem tKind {z : Bool} {v x : eV} (h : tV σ α v x) (hk : eKind z v = true) : eKind z x = true := by
  match v, h, hk with
  | .inl _, h, hk => cases h; exact hk
  | .inr (.inl none), h, hk => cases h; exact hk
  | .inr (.inl (some _)), ⟨_, _, h⟩, hk => cases h; exact hk
  | .inr (.inr _), _, hk => cases hk
theorem tPutf {z : Bool} (hg : tGood σ f) (hw : tW σ α W V) (hl : tL σ α ls ls') (hs : tS σ α st st') (q : ePutf f M pc a b z ls st (W, c) = some r) : tP σ α W V c d r (ePutf f M pc a b z ls' st' (V, d)) := by
  unfold ePutf at q; split at q
  · rename_i v k9 st
    obtain ⟨x, _, rfl, hx, hs1⟩ := tS_inv hs
    obtain ⟨_, _, rfl, ⟨a1, ha, rfl⟩, hs2⟩ := tS_inv hs1
    dsimp only at q
    split at q
    · rename_i k fs hc
      simp only [Bool.cond_eq_ite] at q; split at q
      · rename_i h1
        obtain ⟨k', c', e1, e2, ⟨gs, rfl, hgs⟩⟩ := tW_get hw hc
        cases ha.symm.trans e1
        unfold ePutf
        dsimp only
        rw [e2]
        dsimp only
        rw [Bool.and_eq_true, Bool.and_eq_true] at h1
        rw [h1.1, tS_len hgs, h1.2.1, tKind hx h1.2.2]
        have hm := tM_set (c := c) (d := d) (c1 := .inr (.inl (k, eSet fs b v))) (c2 := .inr (.inl (k, eSet gs b x))) hw hc ha rfl rfl ⟨_, rfl, tS_set hgs hx⟩
        have hq := hg _ _ _ _ _ _ _ q (α ++ []) (eSet V a1 (.inr (.inl (k, eSet gs b x)))) d ls' _ hm.1 (tL_mono hl) (tS_mono hs2)
        exact tP_of hw hm hq
      · cases q
    · cases q
  · cases q
theorem tNewA (hg : tGood σ f) (hw : tW σ α W V) (hl : tL σ α ls ls') (hs : tS σ α st st') (ht : t < 77) (q : eNewA f M pc len t ls st (W, c) = some r) : tP σ α W V c d r (eNewA f M pc len t ls' st' (V, d)) := by
  unfold eNewA at q; split at q
  · rename_i m st
    obtain ⟨_, _, rfl, rfl, hs1⟩ := tS_inv hs
    split at q
    · rename_i h1
      unfold eNewA
      dsimp only
      rw [if_pos h1]
      have hm := tM_push (c := c) (d := d) (m := 1) (n := (wr m).toNat) (c1 := .inl (t, ((wr m).toNat, fun _ => 0))) (c2 := .inl (t, ((wr m).toNat, fun _ => 0))) hw (Or.inr rfl)
      have hq := hg _ _ _ _ _ _ _ q (α ++ [V.length]) (V ++ [.inl (t, ((wr m).toNat, fun _ => 0))]) (d.1 + 1, d.2 + (wr m).toNat) ls' (.inr (.inl (some (eLen V))) :: _) hm.1 (tL_mono hl) ⟨⟨V.length, by rw [eLen_eq, ← hw.1, List.getElem?_append_right (Nat.le_refl _), Nat.sub_self]; rfl, by rw [eLen_eq]⟩, tS_mono hs1⟩
      exact tP_of hw hm hq
    · cases q
  · cases q
theorem tNewQ (hg : tGood σ f) (hw : tW σ α W V) (hl : tL σ α ls ls') (hs : tS σ α st st') (q : eNewQ f M pc ls st (W, c) = some r) : tP σ α W V c d r (eNewQ f M pc ls' st' (V, d)) := by
  unfold eNewQ at q; split at q
  · rename_i m st
    obtain ⟨_, _, rfl, rfl, hs1⟩ := tS_inv hs
    split at q
    · rename_i h1
      unfold eNewQ
      dsimp only
      rw [if_pos h1]
      have hm := tM_push (c := c) (d := d) (m := 1) (n := (wr m).toNat) (c1 := .inr (.inr ((wr m).toNat, fun _ => none))) (c2 := .inr (.inr ((wr m).toNat, fun _ => none))) hw ⟨_, rfl, fun _ _ => rfl⟩
      have hq := hg _ _ _ _ _ _ _ q (α ++ [V.length]) (V ++ [.inr (.inr ((wr m).toNat, fun _ => none))]) (d.1 + 1, d.2 + (wr m).toNat) ls' (.inr (.inl (some (eLen V))) :: _) hm.1 (tL_mono hl) ⟨⟨V.length, by rw [eLen_eq, ← hw.1, List.getElem?_append_right (Nat.le_refl _), Nat.sub_self]; rfl, by rw [eLen_eq]⟩, tS_mono hs1⟩
      exact tP_of hw hm hq
    · cases q
  · cases q
theorem tQLd (hg : tGood σ f) (hw : tW σ α W V) (hl : tL σ α ls ls') (hs : tS σ α st st') (q : eQLd f M pc ls st (W, c) = some r) : tP σ α W V c d r (eQLd f M pc ls' st' (V, d)) := by
  unfold eQLd at q; split at q
  · rename_i i9 k9 st
    obtain ⟨_, _, rfl, rfl, hs1⟩ := tS_inv hs
    obtain ⟨_, _, rfl, ⟨a1, ha, rfl⟩, hs2⟩ := tS_inv hs1
    dsimp only at q
    split at q
    · rename_i m g hc
      split at q
      · rename_i h2
        obtain ⟨k', c', e1, e2, ⟨g', rfl, hg'⟩⟩ := tW_get hw hc
        cases ha.symm.trans e1
        unfold eQLd
        dsimp only
        rw [e2]
        dsimp only
        rw [if_pos h2]
        exact hg _ _ _ _ _ _ _ q _ _ _ _ _ hw hl ⟨hg' _ (by omega), hs2⟩
      · cases q
    · cases q
  · cases q
theorem tQSt (hg : tGood σ f) (hw : tW σ α W V) (hl : tL σ α ls ls') (hs : tS σ α st st') (q : eQSt f cy M pc ls st (W, c) = some r) : tP σ α W V c d r (eQSt f cy M pc ls' st' (V, d)) := by
  unfold eQSt at q; split at q
  · rename_i v9 i9 k9 st
    obtain ⟨_, _, rfl, ⟨a0, ha0, rfl⟩, hs0⟩ := tS_inv hs
    obtain ⟨_, _, rfl, rfl, hs1⟩ := tS_inv hs0
    obtain ⟨_, _, rfl, ⟨a1, ha, rfl⟩, hs2⟩ := tS_inv hs1
    dsimp only at q
    split at q
    · rename_i m g hc
      split at q
      · rename_i cc fs hcv
        simp only [Bool.cond_eq_ite] at q; split at q
        · rename_i h1
          split at q
          · rename_i h2
            obtain ⟨k', c', e1, e2, ⟨g', rfl, hg'⟩⟩ := tW_get hw hc
            cases ha.symm.trans e1
            obtain ⟨k2, c2, e3, e4, ⟨gs, rfl, hgs⟩⟩ := tW_get hw hcv
            cases ha0.symm.trans e3
            unfold eQSt
            dsimp only
            rw [e2]
            dsimp only
            rw [e4]
            dsimp only
            rw [h1, cond_true, if_pos h2]
            have hm := tM_set (c := c) (d := d) (c1 := .inr (.inr (m, eUp g (wr i9).toNat (some v9)))) (c2 := .inr (.inr (m, eUp g' (wr i9).toNat (some a0)))) hw hc ha rfl rfl ⟨_, rfl, fun j hj => by
              unfold eUp
              by_cases hji : j = (wr i9).toNat
              · rw [if_pos hji, if_pos hji]; exact ⟨a0, ha0, rfl⟩
              · rw [if_neg hji, if_neg hji]; exact hg' j hj⟩
            have hq := hg _ _ _ _ _ _ _ q (α ++ []) (eSet V a1 (.inr (.inr (m, eUp g' (wr i9).toNat (some a0))))) d ls' _ hm.1 (tL_mono hl) (tS_mono hs2)
            exact tP_of hw hm hq
          · cases q
        · cases q
      · cases q
    · cases q
  · cases q
theorem tCopy (hg : tGood σ f) (hw : tW σ α W V) (hl : tL σ α ls ls') (hs : tS σ α st st') (q : eCopy f M pc ls st (W, c) = some r) : tP σ α W V c d r (eCopy f M pc ls' st' (V, d)) := by
  unfold eCopy at q; split at q
  · rename_i n9 dp r1 sp r0 st
    obtain ⟨_, _, rfl, rfl, hs0⟩ := tS_inv hs
    obtain ⟨_, _, rfl, rfl, hs1⟩ := tS_inv hs0
    obtain ⟨_, _, rfl, ⟨a1, ha1, rfl⟩, hs2⟩ := tS_inv hs1
    obtain ⟨_, _, rfl, rfl, hs3⟩ := tS_inv hs2
    obtain ⟨_, _, rfl, ⟨a0, ha0, rfl⟩, hs4⟩ := tS_inv hs3
    dsimp only at q
    split at q
    · rename_i t0 m0 g0 hc0
      split at q
      · rename_i t1 m1 g1 hc1
        simp only [Bool.cond_eq_ite] at q; split at q
        · rename_i h1
          split at q
          · rename_i h2
            obtain ⟨k0, c0, e1, e2, e3⟩ := tW_get hw hc0
            cases ha0.symm.trans e1
            obtain ⟨k1, c1, e4, e5, e6⟩ := tW_get hw hc1
            cases ha1.symm.trans e4
            have h3 := h1
            simp only [Bool.and_eq_true, Bool.or_eq_true, Nat.beq_eq] at h3
            have hj : Nat.beq t1 77 = false := by
              rcases h3.1.2 with h | h <;> rw [← h3.1.1, h] <;> rfl
            rcases e3 with h | rfl
            · omega
            · rcases e6 with h | rfl
              · omega
              · unfold eCopy
                dsimp only
                rw [e2]
                dsimp only
                rw [e5]
                dsimp only
                rw [tS_cats hs4, h1, cond_true, if_pos h2]
                have hm := tM_set (c := c) (d := d) (c1 := .inl (t1, (m1, eCpy g0 g1 (wr sp).toNat (wr dp).toNat (wr n9).toNat))) (c2 := .inl (t1, (m1, eCpy g0 g1 (wr sp).toNat (wr dp).toNat (wr n9).toNat))) hw hc1 ha1 hj hj (Or.inr rfl)
                have hq := hg _ _ _ _ _ _ _ q (α ++ []) (eSet V a1 (.inl (t1, (m1, eCpy g0 g1 (wr sp).toNat (wr dp).toNat (wr n9).toNat)))) d ls' _ hm.1 (tL_mono hl) (tS_mono hs4)
                exact tP_of hw hm hq
          · cases q
        · cases q
      · cases q
    · cases q
  · cases q
theorem tBr {cd : ClassFile.Cond} (hg : tGood σ f) (hw : tW σ α W V) (hl : tL σ α ls ls') (hs : tS σ α st st') (q : eBr f M pc a cd ls st (W, c) = some r) : tP σ α W V c d r (eBr f M pc a cd ls' st' (V, d)) := by
  unfold eBr at q; split at q
  · obtain ⟨_, _, rfl, rfl, hs1⟩ := tS_inv hs
    exact tIf (P := tP σ α W V c d r) (fun q => hg _ _ _ _ _ _ _ q _ _ _ _ _ hw hl hs1) (fun q => hg _ _ _ _ _ _ _ q _ _ _ _ _ hw hl hs1) q
  · cases q
theorem tBr2 {cd : ClassFile.Cond} (hg : tGood σ f) (hw : tW σ α W V) (hl : tL σ α ls ls') (hs : tS σ α st st') (q : eBr2 f M pc a cd ls st (W, c) = some r) : tP σ α W V c d r (eBr2 f M pc a cd ls' st' (V, d)) := by
  unfold eBr2 at q; split at q
  · obtain ⟨_, _, rfl, rfl, hs1⟩ := tS_inv hs
    obtain ⟨_, _, rfl, rfl, hs2⟩ := tS_inv hs1
    exact tIf (P := tP σ α W V c d r) (fun q => hg _ _ _ _ _ _ _ q _ _ _ _ _ hw hl hs2) (fun q => hg _ _ _ _ _ _ _ q _ _ _ _ _ hw hl hs2) q
  · cases q
theorem tBrN {z : Bool} (hg : tGood σ f) (hw : tW σ α W V) (hl : tL σ α ls ls') (hs : tS σ α st st') (q : eBrN f M pc a z ls st (W, c) = some r) : tP σ α W V c d r (eBrN f M pc a z ls' st' (V, d)) := by
  unfold eBrN at q; split at q
  · obtain ⟨_, _, rfl, rfl, hs1⟩ := tS_inv hs
    exact hg _ _ _ _ _ _ _ q _ _ _ _ _ hw hl hs1
  · obtain ⟨_, _, rfl, ⟨a1, ha, rfl⟩, hs1⟩ := tS_inv hs
    exact hg _ _ _ _ _ _ _ q _ _ _ _ _ hw hl hs1
  · cases q
theorem tStrOp (hg : tGood σ f) (hw : tW σ α W V) (hl : tL σ α ls ls') (hs : tS σ α st st') (q : eStrOp f M pc a ls st (W, c) = some r) : tP σ α W V c d r (eStrOp f M pc a ls' st' (V, d)) := by
  unfold eStrOp at q ⊢; simp only [Bool.cond_eq_ite, Bool.and_eq_true, Nat.ble_eq, Nat.blt_eq] at q ⊢; split at q
  · rename_i h1; rw [if_pos h1]; split at q
    · rename_i k st
      split at q
      · rename_i h2
        obtain ⟨x, _, rfl, hx, hs1⟩ := tS_inv hs
        rcases hx with ⟨rfl, -⟩ | ⟨h19, -⟩
        · dsimp only
          rw [tS_cats hs1, if_pos h2]
          exact hg _ _ _ _ _ _ _ q _ _ _ _ _ hw hl ⟨rfl, hs1⟩
        · omega
      · cases q
    · cases q
  · rename_i h1; rw [if_neg h1]; split at q
    · rename_i h3; rw [if_pos h3]; split at q
      · rename_i i9 k st
        split at q
        · rename_i h2
          split at q
          · rename_i h4
            obtain ⟨_, _, rfl, rfl, hs1⟩ := tS_inv hs
            obtain ⟨x, _, rfl, hx, hs2⟩ := tS_inv hs1
            rcases hx with ⟨rfl, -⟩ | ⟨h19, -⟩
            · dsimp only
              rw [tS_cats hs2, if_pos h2, if_pos h4]
              exact hg _ _ _ _ _ _ _ q _ _ _ _ _ hw hl ⟨rfl, hs2⟩
            · rw [sStr_19 k h19] at h4
              exact absurd h4.2 (by show ¬ wr i9 < (0 : Nat); omega)
          · cases q
        · cases q
      · cases q
    · cases q
theorem tStaOp (hg : tGood σ f) (hw : tW σ α W V) (hl : tL σ α ls ls') (hs : tS σ α st st') (q : eStaOp f M pc a ls st (W, c) = some r) : tP σ α W V c d r (eStaOp f M pc a ls' st' (V, d)) := by
  unfold eStaOp at q ⊢; simp only [Bool.cond_eq_ite, Bool.and_eq_true, Nat.ble_eq, Nat.blt_eq] at q ⊢; split at q
  · rename_i h1; rw [if_pos h1]; split at q
    · split at q
      · rename_i h2
        obtain ⟨_, _, rfl, rfl, hs1⟩ := tS_inv hs
        obtain ⟨_, _, rfl, rfl, hs2⟩ := tS_inv hs1
        dsimp only
        rw [tS_cats hs2, if_pos h2]
        exact hg _ _ _ _ _ _ _ q _ _ _ _ _ hw hl ⟨rfl, hs2⟩
      · cases q
    · cases q
  · rename_i h1; rw [if_neg h1]; split at q
    · rename_i h3; rw [if_pos h3]; split at q
      · split at q
        · rename_i h2
          obtain ⟨_, _, rfl, rfl, hs1⟩ := tS_inv hs
          obtain ⟨_, _, rfl, rfl, hs2⟩ := tS_inv hs1
          dsimp only
          rw [tS_cats hs2, if_pos h2]
          exact hg _ _ _ _ _ _ _ q _ _ _ _ _ hw hl ⟨rfl, hs2⟩
        · cases q
      · cases q
    · rename_i h3; rw [if_neg h3]; split at q
      · rename_i h4; rw [if_pos h4]; exact tCopy hg hw hl hs q
      · cases q
theorem tInit (hg : tGood σ f) (hw : tW σ α W V) (hl : tL σ α ls ls') (hs : tS σ α st st') (q : eInit f M pc ls st (W, c) = some r) : tP σ α W V c d r (eInit f M pc ls' st' (V, d)) := by
  unfold eInit at q; split at q
  · simp only [Bool.cond_eq_ite] at q; split at q
    · rename_i h1
      obtain ⟨_, _, rfl, ⟨a1, ha, rfl⟩, hs1⟩ := tS_inv hs
      unfold eInit
      dsimp only
      rw [tS_cats hs1, h1]
      exact hg _ _ _ _ _ _ _ q _ _ _ _ _ hw hl hs1
    · cases q
  · cases q
theorem tDefs (α : List Nat) : ∀ a, tS σ α (eDefs a) (eDefs a) := by
  intro a
  unfold eDefs
  split <;> (repeat' first | exact trivial | refine ⟨rfl, ?_⟩)
theorem tNew (hg : tGood σ f) (hw : tW σ α W V) (hl : tL σ α ls ls') (hs : tS σ α st st') (q : eNew f M pc a ls st (W, c) = some r) : tP σ α W V c d r (eNew f M pc a ls' st' (V, d)) := by
  unfold eNew at q ⊢
  cases hb : Nat.blt a 100 with
  | true =>
    rw [hb, cond_true] at q
    rw [cond_true]
    have hm := tM_push (c := c) (d := d) (m := 1) (n := eLen (eDefs a)) (c1 := .inr (.inl (a, eDefs a))) (c2 := .inr (.inl (a, eDefs a))) hw ⟨_, rfl, tDefs _ a⟩
    have hq := hg _ _ _ _ _ _ _ q (α ++ [V.length]) (V ++ [.inr (.inl (a, eDefs a))]) (d.1 + 1, d.2 + eLen (eDefs a)) ls' (.inr (.inl (some (eLen V))) :: _) hm.1 (tL_mono hl) ⟨⟨V.length, by rw [eLen_eq, ← hw.1, List.getElem?_append_right (Nat.le_refl _), Nat.sub_self]; rfl, by rw [eLen_eq]⟩, tS_mono hs⟩
    exact tP_of hw hm hq
  | false =>
    rw [hb, cond_false] at q
    rw [cond_false, tS_cats hs]
    simp only [Bool.cond_eq_ite] at q ⊢; split at q
    · rename_i h1
      rw [if_pos h1]
      obtain rfl := Option.some.inj q
      exact ⟨[], V, (d.1 + 1, d.2 + 6), .inr (a - 100), rfl, rfl, by rw [List.append_nil]; exact hw, ⟨by dsimp only; omega, by dsimp only; omega⟩, rfl, fun _ h => (by cases h), fun _ _ _ => rfl, fun i cc h => ⟨cc, h, rfl⟩⟩
    · cases q
theorem tLoadK {k : Nat} (hg : tGood σ f) (hw : tW σ α W V) (hl : tL σ α ls ls') (hs : tS σ α st st') (q : eLoadK f k M pc len i ls st (W, c) = some r) : tP σ α W V c d r (eLoadK f k M pc len i ls' st' (V, d)) := by
  unfold eLoadK at q; split at q
  · rename_i v hv
    simp only [Bool.cond_eq_ite] at q; split at q
    · rename_i h1
      obtain ⟨v', g1, g2⟩ := tL_nth hl hv
      unfold eLoadK
      rw [g1]
      dsimp only
      rw [tV_kn g2, h1]
      exact hg _ _ _ _ _ _ _ q _ _ _ _ _ hw hl ⟨g2, hs⟩
    · cases q
  · cases q
theorem tStoreK {k : Nat} (hg : tGood σ f) (hw : tW σ α W V) (hl : tL σ α ls ls') (hs : tS σ α st st') (q : eStoreK f k M pc len i ls st (W, c) = some r) : tP σ α W V c d r (eStoreK f k M pc len i ls' st' (V, d)) := by
  unfold eStoreK at q; split at q
  · simp only [Bool.cond_eq_ite] at q; split at q
    · rename_i h1
      obtain ⟨x, _, rfl, hx, hs1⟩ := tS_inv hs
      rw [Bool.and_eq_true] at h1
      unfold eStoreK
      dsimp only
      rw [tV_kn hx, h1.1, tL_below hl h1.2]
      exact hg _ _ _ _ _ _ _ q _ _ _ _ _ hw (tL_put hl ⟨hx, trivial⟩) hs1
    · cases q
  · cases q
theorem tStoreD (hg : tGood σ f) (hw : tW σ α W V) (hl : tL σ α ls ls') (hs : tS σ α st st') (q : eStoreD f M pc len i ls st (W, c) = some r) : tP σ α W V c d r (eStoreD f M pc len i ls' st' (V, d)) := by
  unfold eStoreD at q; split at q
  · simp only [Bool.cond_eq_ite] at q; split at q
    · rename_i h1
      obtain ⟨_, _, rfl, rfl, hs1⟩ := tS_inv hs
      unfold eStoreD
      dsimp only
      rw [tL_below hl h1]
      exact hg _ _ _ _ _ _ _ q _ _ _ _ _ hw (tL_put (tL_put hl ⟨rfl, trivial⟩) trivial) hs1
    · cases q
  · cases q
theorem tBack0 {u v : eRes} {W0 V0 : List eC} {c0 d0 : Nat × Nat} (h0 : tW σ α W0 V0) (hg : tGood σ f) (hl : tL σ α ls ls') (hs : tS σ α st st') (huv : ∀ r, u = some r → tP σ α W0 V0 c0 d0 r v) (q : eBack0 f M pc ls st u = some r) : tP σ α W0 V0 c0 d0 r (eBack0 f M pc ls' st' v) := by
  unfold eBack0 at q; split at q
  · rename_i w1
    obtain ⟨β, V', d', o', rfl, ho, hm⟩ := huv _ rfl
    cases ho
    exact tP_of h0 hm (hg _ _ _ _ _ _ _ q _ _ _ _ _ hm.1 (tL_mono hl) (tS_mono hs))
  · rename_i v9 w1
    obtain ⟨β, V', d', o', rfl, ⟨x, rfl, hx⟩, hm⟩ := huv _ rfl
    exact tP_of h0 hm (hg _ _ _ _ _ _ _ q _ _ _ _ _ hm.1 (tL_mono hl) ⟨hx, tS_mono hs⟩)
  · cases q
theorem tBackW {cat : Nat → Option (Option (Nat × Nat))} {u v : eRes} {W0 V0 : List eC} {c0 d0 : Nat × Nat} (h0 : tW σ α W0 V0) (hg : tGood σ f) (hl : tL σ α ls ls') (hs : tS σ α st st') (huv : ∀ r, u = some r → tP σ α W0 V0 c0 d0 r v) (q : eBackW f M pc ls st cat u = some r) : tP σ α W0 V0 c0 d0 r (eBackW f M pc ls' st' cat v) := by
  unfold eBackW at q; split at q
  · rename_i w1
    obtain ⟨β, V', d', o', rfl, ho, hm⟩ := huv _ rfl
    cases ho
    exact tP_of h0 hm (hg _ _ _ _ _ _ _ q _ _ _ _ _ hm.1 (tL_mono hl) (tS_mono hs))
  · rename_i v9 w1
    obtain ⟨β, V', d', o', rfl, ⟨x, rfl, hx⟩, hm⟩ := huv _ rfl
    exact tP_of h0 hm (hg _ _ _ _ _ _ _ q _ _ _ _ _ hm.1 (tL_mono hl) ⟨hx, tS_mono hs⟩)
  · rename_i En w1
    obtain ⟨β, V', d', o', rfl, ho, hm⟩ := huv _ rfl
    cases ho
    unfold eBackW
    dsimp only
    split at q
    · rename_i hc
      try rw [hc]
      obtain rfl := Option.some.inj q
      exact ⟨β, V', d', _, rfl, rfl, hm⟩
    · cases q
    · rename_i k2 pc2 hc
      try rw [hc]
      exact tP_of h0 hm (hg _ _ _ _ _ _ _ q _ _ _ _ _ hm.1 trivial trivial)
  · cases q
theorem tCallT (hg : tGood σ f) (hw : tW σ α W V) (hl : tL σ α ls ls') (hs : tS σ α st st') (q : eCallT f f dM dy M pc y n ls st (W, c) = some r) : tP σ α W V c d r (eCallT f f dM dy M pc y n ls' st' (V, d)) := by
  unfold eCallT at q; split at q
  · rename_i as rest hTR
    simp only [Bool.cond_eq_ite] at q; split at q
    · rename_i h1
      obtain ⟨as', rest', g1, g2, g3⟩ := tS_TR hs (show tS σ α [] [] from trivial) hTR
      unfold eCallT
      rw [g1]
      dsimp only
      rw [tS_all1 g2, tS_cats g3, h1, cond_true]
      refine tBack0 hw hg hl g3 ?_ q
      intro r q
      exact hg _ _ _ _ _ _ _ q _ _ _ _ _ hw (tL_args g2) (show tS σ α [] [] from trivial)
    · cases q
  · cases q
theorem tCallI (hg : tGood σ f) (hw : tW σ α W V) (hl : tL σ α ls ls') (hs : tS σ α st st') (q : eCallI f f dM dy cy M pc y n ls st (W, c) = some r) : tP σ α W V c d r (eCallI f f dM dy cy M pc y n ls' st' (V, d)) := by
  unfold eCallI at q; split at q
  · rename_i k9 as rest hTR
    dsimp only at q
    split at q
    · rename_i cc fs hc
      simp only [Bool.cond_eq_ite] at q; split at q
      · rename_i h1
        obtain ⟨as1, rest', g1, g2, g3⟩ := tS_TR hs (show tS σ α [] [] from trivial) hTR
        obtain ⟨x, as', rfl, ⟨a1, ha, rfl⟩, g4⟩ := tS_inv g2
        obtain ⟨k', c', e1, e2, ⟨gs, rfl, hgs⟩⟩ := tW_get hw hc
        cases ha.symm.trans e1
        unfold eCallI
        rw [g1]
        dsimp only
        rw [e2]
        dsimp only
        rw [tS_all1 g4, tS_cats g3, h1, cond_true]
        refine tBack0 hw hg hl g3 ?_ q
        intro r q
        exact hg _ _ _ _ _ _ _ q _ _ _ _ _ hw (tL_args g2) (show tS σ α [] [] from trivial)
      · cases q
    · cases q
  · cases q
theorem tCallW {cat : Nat → Option (Option (Nat × Nat))} (hg : tGood σ f) (hw : tW σ α W V) (hl : tL σ α ls ls') (hs : tS σ α st st') (q : eCallW f f dM dy cy M pc y n ls st (W, c) cat = some r) : tP σ α W V c d r (eCallW f f dM dy cy M pc y n ls' st' (V, d) cat) := by
  unfold eCallW at q; split at q
  · rename_i k9 as rest hTR
    dsimp only at q
    split at q
    · rename_i cc fs hc
      simp only [Bool.cond_eq_ite] at q; split at q
      · rename_i h1
        obtain ⟨as1, rest', g1, g2, g3⟩ := tS_TR hs (show tS σ α [] [] from trivial) hTR
        obtain ⟨x, as', rfl, ⟨a1, ha, rfl⟩, g4⟩ := tS_inv g2
        obtain ⟨k', c', e1, e2, ⟨gs, rfl, hgs⟩⟩ := tW_get hw hc
        cases ha.symm.trans e1
        unfold eCallW
        rw [g1]
        dsimp only
        rw [e2]
        dsimp only
        rw [tS_all1 g4, tS_cats g3, h1, cond_true]
        refine tBackW hw hg hl g3 ?_ q
        intro r q
        exact hg _ _ _ _ _ _ _ q _ _ _ _ _ hw (tL_args g2) (show tS σ α [] [] from trivial)
      · cases q
    · cases q
  · cases q
theorem tRet0 {o o' : Option eV} (hw : tW σ α W V) (q : some (.inl o, (W, c)) = some r) (ho : tO σ α (.inl o) (.inl o')) : tP σ α W V c d r (some (.inl o', (V, d))) := by
  obtain rfl := Option.some.inj q
  exact ⟨[], V, d, _, rfl, by rw [List.append_nil]; exact ho, tM_refl hw⟩
theorem tRetI (hw : tW σ α W V) (hs : tS σ α st st') (q : eRetI M st (W, c) = some r) : tP σ α W V c d r (eRetI M st' (V, d)) := by
  unfold eRetI at q; split at q
  · obtain ⟨_, _, rfl, rfl, hs1⟩ := tS_inv hs
    obtain rfl := tS_nil hs1
    unfold eRetI
    simp only [Bool.cond_eq_ite] at q ⊢; split at q
    · rename_i h1; rw [if_pos h1]; exact tRet0 hw q ⟨_, rfl, rfl⟩
    · rename_i h1; rw [if_neg h1]; split at q
      · rename_i h2; rw [if_pos h2]; split at q
        · rename_i h3; rw [if_pos h3]; exact tRet0 hw q ⟨_, rfl, rfl⟩
        · cases q
      · cases q
  · cases q
theorem tRetA (hw : tW σ α W V) (hs : tS σ α st st') (q : eRetA M st (W, c) = some r) : tP σ α W V c d r (eRetA M st' (V, d)) := by
  unfold eRetA at q; split at q
  · rename_i k
    obtain ⟨x, _, rfl, hx, hs1⟩ := tS_inv hs
    obtain rfl := tS_nil hs1
    simp only [Bool.cond_eq_ite] at q; split at q
    · rename_i h1
      cases k with
      | none =>
        obtain rfl : x = .inr (.inl none) := hx
        unfold eRetA
        dsimp only
        rw [h1]
        exact tRet0 hw q ⟨_, rfl, rfl⟩
      | some k =>
        obtain ⟨a1, ha, rfl⟩ := hx
        unfold eRetA
        dsimp only
        rw [h1]
        exact tRet0 hw q ⟨_, rfl, a1, ha, rfl⟩
    · cases q
  · cases q
theorem tRetF (hw : tW σ α W V) (hs : tS σ α st st') (q : eRetF M st (W, c) = some r) : tP σ α W V c d r (eRetF M st' (V, d)) := by
  unfold eRetF at q; split at q
  · obtain ⟨_, _, rfl, rfl, hs1⟩ := tS_inv hs
    obtain rfl := tS_nil hs1
    unfold eRetF
    simp only [Bool.cond_eq_ite] at q ⊢; split at q
    · rename_i h1; rw [if_pos h1]; exact tRet0 hw q ⟨_, rfl, rfl⟩
    · cases q
  · cases q
theorem tRetD (hw : tW σ α W V) (hs : tS σ α st st') (q : eRetD M st (W, c) = some r) : tP σ α W V c d r (eRetD M st' (V, d)) := by
  unfold eRetD at q; split at q
  · obtain ⟨_, _, rfl, rfl, hs1⟩ := tS_inv hs
    obtain rfl := tS_nil hs1
    unfold eRetD
    simp only [Bool.cond_eq_ite] at q ⊢; split at q
    · rename_i h1; rw [if_pos h1]; exact tRet0 hw q ⟨_, rfl, rfl⟩
    · cases q
  · cases q
theorem tRetV (hw : tW σ α W V) (hs : tS σ α st st') (q : eRetV M st (W, c) = some r) : tP σ α W V c d r (eRetV M st' (V, d)) := by
  unfold eRetV at q; split at q
  · obtain rfl := tS_nil hs
    unfold eRetV
    simp only [Bool.cond_eq_ite] at q ⊢; split at q
    · rename_i h1; rw [if_pos h1]; exact tRet0 hw q rfl
    · cases q
  · cases q
theorem tIinc {x9 : Int} (hg : tGood σ f) (hw : tW σ α W V) (hl : tL σ α ls ls') (hs : tS σ α st st') (q : eStep f f f M pc ls st (W, c) (.iinc i x9) len a b = some r) : tP σ α W V c d r (eStep f f f M pc ls' st' (V, d) (.iinc i x9) len a b) := by
  unfold eStep at q ⊢; dsimp only at q ⊢; split at q
  · rename_i x hx
    obtain ⟨v', g1, g2⟩ := tL_nth hl hx
    obtain rfl : v' = .inl x := g2
    rw [g1]
    simp only [Bool.cond_eq_ite] at q ⊢; split at q
    · rename_i h1
      rw [if_pos (tL_below hl h1)]
      exact hg _ _ _ _ _ _ _ q _ _ _ _ _ hw (tL_put hl ⟨rfl, trivial⟩) hs
    · cases q
  · cases q
set_option maxHeartbeats 4000000 in
theorem tStep {ins : Instr} (h9 : Nat.beq b 0 = false → (∃ i, ins = .ldc i ∨ ins = .ldc_w i) → a < 19) (hg : tGood σ f) (hw : tW σ α W V) (hl : tL σ α ls ls') (hs : tS σ α st st') (q : eStep f f f M pc ls st (W, c) ins len a b = some r) : tP σ α W V c d r (eStep f f f M pc ls' st' (V, d) ins len a b) := by
  have g : ∀ {pc2 : Nat} {ls2 ls2' : eL} {st2 st2' : List eV}, f M pc2 ls2 st2 (W, c) = some r → tL σ α ls2 ls2' → tS σ α st2 st2' → tP σ α W V c d r (f M pc2 ls2' st2' (V, d)) := fun q h1 h2 => hg _ _ _ _ _ _ _ q _ _ _ _ _ hw h1 h2
  cases ins
  case iconst n => exact g q hl ⟨rfl, hs⟩
  case bipush n => exact g q hl ⟨rfl, hs⟩
  case sipush n => exact g q hl ⟨rfl, hs⟩
  case lconst n => exact g q hl ⟨rfl, hs⟩
  case aconst_null => exact g q hl ⟨rfl, hs⟩
  case goto o => exact g q hl hs
  case ldc i =>
    unfold eStep at q ⊢; dsimp only at q ⊢
    cases hb : Nat.beq b 0 with
    | true => rw [hb] at q; exact g q hl ⟨rfl, hs⟩
    | false => rw [hb] at q; exact g q hl ⟨Or.inl ⟨rfl, h9 hb ⟨i, Or.inl rfl⟩⟩, hs⟩
  case ldc_w i =>
    unfold eStep at q ⊢; dsimp only at q ⊢
    cases hb : Nat.beq b 0 with
    | true => rw [hb] at q; exact g q hl ⟨rfl, hs⟩
    | false => rw [hb] at q; exact g q hl ⟨Or.inl ⟨rfl, h9 hb ⟨i, Or.inr rfl⟩⟩, hs⟩
  case fconst n =>
    unfold eStep at q ⊢; simp only [Bool.cond_eq_ite] at q ⊢; split at q
    · rename_i h; rw [if_pos h]; exact g q hl ⟨rfl, hs⟩
    · cases q
  case dconst n =>
    unfold eStep at q ⊢; simp only [Bool.cond_eq_ite] at q ⊢; split at q
    · rename_i h; rw [if_pos h]; exact g q hl ⟨rfl, hs⟩
    · cases q
  case iload i => exact tLoadK hg hw hl hs q
  case iload_n i => exact tLoadK hg hw hl hs q
  case aload i => exact tLoadK hg hw hl hs q
  case aload_n i => exact tLoadK hg hw hl hs q
  case dload i => exact tLoadK hg hw hl hs q
  case istore i => exact tStoreK hg hw hl hs q
  case istore_n i => exact tStoreK hg hw hl hs q
  case astore i => exact tStoreK hg hw hl hs q
  case astore_n i => exact tStoreK hg hw hl hs q
  case dstore i => exact tStoreD hg hw hl hs q
  case iinc i n => exact tIinc hg hw hl hs q
  case iadd => exact tBin hg hw hl hs q
  case isub => exact tBin hg hw hl hs q
  case imul => exact tBin hg hw hl hs q
  case iand => exact tBin hg hw hl hs q
  case ior => exact tBin hg hw hl hs q
  case ixor => exact tBin hg hw hl hs q
  case ishl => exact tBin hg hw hl hs q
  case ishr => exact tBin hg hw hl hs q
  case iushr => exact tBin hg hw hl hs q
  case ifCond cd o => exact tBr hg hw hl hs q
  case if_icmp cd o => exact tBr2 hg hw hl hs q
  case ifnull o => exact tBrN hg hw hl hs q
  case ifnonnull o => exact tBrN hg hw hl hs q
  case getfield i => exact tGet hg hw hl hs q
  case putfield i => exact tPutf hg hw hl hs q
  case iaload => exact tALd (ok := eOkI) (mk := fun x => .inl x) rfl (fun _ => rfl) hg hw hl hs q
  case baload => exact tALd (ok := eOkB) (mk := fun x => .inl x) rfl (fun _ => rfl) hg hw hl hs q
  case laload => exact tALd (ok := eOkJ) (mk := fun x => .inr (.inr (.inl x))) rfl (fun _ => rfl) hg hw hl hs q
  case aaload => exact tQLd hg hw hl hs q
  case aastore => exact tQSt hg hw hl hs q
  case anewarray i => exact tNewQ hg hw hl hs q
  case new i => exact tNew hg hw hl hs q
  case ireturn => exact tRetI hw hs q
  case areturn => exact tRetA hw hs q
  case freturn => exact tRetF hw hs q
  case dreturn => exact tRetD hw hs q
  case return_ => exact tRetV hw hs q
  case newarray t =>
    cases t <;> first
      | exact tNewA hg hw hl hs (by omega) q
      | (unfold eStep at q; dsimp only at q; cases q; done)
  case idiv =>
    unfold eStep at q; dsimp only at q; split at q
    · split at q
      · cases q
      · rename_i h
        obtain ⟨_, _, rfl, rfl, hs1⟩ := tS_inv hs
        obtain ⟨_, _, rfl, rfl, hs2⟩ := tS_inv hs1
        unfold eStep; dsimp only; rw [if_neg h]; exact g q hl ⟨rfl, hs2⟩
    · cases q
  case irem =>
    unfold eStep at q; dsimp only at q; split at q
    · split at q
      · cases q
      · rename_i h
        obtain ⟨_, _, rfl, rfl, hs1⟩ := tS_inv hs
        obtain ⟨_, _, rfl, rfl, hs2⟩ := tS_inv hs1
        unfold eStep; dsimp only; rw [if_neg h]; exact g q hl ⟨rfl, hs2⟩
    · cases q
  case i2l =>
    unfold eStep at q; dsimp only at q; split at q
    · obtain ⟨_, _, rfl, rfl, hs1⟩ := tS_inv hs
      exact g q hl ⟨rfl, hs1⟩
    · cases q
  case i2b =>
    unfold eStep at q; dsimp only at q; split at q
    · obtain ⟨_, _, rfl, rfl, hs1⟩ := tS_inv hs
      exact g q hl ⟨rfl, hs1⟩
    · cases q
  case i2f =>
    unfold eStep at q; dsimp only at q; split at q
    · obtain ⟨_, _, rfl, rfl, hs1⟩ := tS_inv hs
      exact g q hl ⟨rfl, hs1⟩
    · cases q
  case i2d =>
    unfold eStep at q; dsimp only at q; split at q
    · obtain ⟨_, _, rfl, rfl, hs1⟩ := tS_inv hs
      exact g q hl ⟨rfl, hs1⟩
    · cases q
  case f2d =>
    unfold eStep at q; dsimp only at q; split at q
    · split at q
      · rename_i h
        obtain ⟨_, _, rfl, rfl, hs1⟩ := tS_inv hs
        unfold eStep; dsimp only; rw [if_pos h]; exact g q hl ⟨rfl, hs1⟩
      · cases q
    · cases q
  case fdiv =>
    unfold eStep at q; dsimp only at q; split at q
    · split at q
      · rename_i h
        obtain ⟨_, _, rfl, rfl, hs1⟩ := tS_inv hs
        obtain ⟨_, _, rfl, rfl, hs2⟩ := tS_inv hs1
        unfold eStep; dsimp only; rw [if_pos h]; exact g q hl ⟨rfl, hs2⟩
      · cases q
    · cases q
  case ddiv =>
    unfold eStep at q; dsimp only at q; split at q
    · split at q
      · rename_i h
        obtain ⟨_, _, rfl, rfl, hs1⟩ := tS_inv hs
        obtain ⟨_, _, rfl, rfl, hs2⟩ := tS_inv hs1
        unfold eStep; dsimp only; rw [if_pos h]; exact g q hl ⟨rfl, hs2⟩
      · cases q
    · cases q
  case dcmp op =>
    unfold eStep at q; dsimp only at q; split at q
    · obtain ⟨_, _, rfl, rfl, hs1⟩ := tS_inv hs
      obtain ⟨_, _, rfl, rfl, hs2⟩ := tS_inv hs1
      exact g q hl ⟨rfl, hs2⟩
    · cases q
  case lcmp =>
    unfold eStep at q; dsimp only at q; split at q
    · obtain ⟨_, _, rfl, rfl, hs1⟩ := tS_inv hs
      obtain ⟨_, _, rfl, rfl, hs2⟩ := tS_inv hs1
      exact g q hl ⟨rfl, hs2⟩
    · cases q
  case tableswitch d9 lo hi offs =>
    unfold eStep at q; dsimp only at q; split at q
    · obtain ⟨_, _, rfl, rfl, hs1⟩ := tS_inv hs
      unfold eStep; dsimp only
      split at q
      · rename_i h; rw [if_pos h]; exact g q hl hs1
      · rename_i h; rw [if_neg h]; split at q
        · rename_i o ho; try rw [ho]
          exact g q hl hs1
        · cases q
    · cases q
  case dup =>
    unfold eStep at q; dsimp only at q; split at q
    · simp only [Bool.cond_eq_ite] at q; split at q
      · rename_i h
        obtain ⟨x, _, rfl, hx, hs1⟩ := tS_inv hs
        unfold eStep; dsimp only; rw [tV_cat hx, h]; exact g q hl ⟨hx, hx, hs1⟩
      · cases q
    · cases q
  case dup2 =>
    unfold eStep at q; dsimp only at q; split at q
    · simp only [Bool.cond_eq_ite] at q; split at q
      · rename_i h
        obtain ⟨x, _, rfl, hx, hs1⟩ := tS_inv hs
        obtain ⟨y, _, rfl, hy, hs2⟩ := tS_inv hs1
        unfold eStep; dsimp only; rw [tV_cat hx, tV_cat hy, h]; exact g q hl ⟨hx, hy, hx, hy, hs2⟩
      · cases q
    · cases q
  case pop =>
    unfold eStep at q; dsimp only at q; split at q
    · simp only [Bool.cond_eq_ite] at q; split at q
      · rename_i h
        obtain ⟨x, _, rfl, hx, hs1⟩ := tS_inv hs
        unfold eStep; dsimp only; rw [tV_cat hx, h]; exact g q hl hs1
      · cases q
    · cases q
  case iastore =>
    unfold eStep at q; dsimp only at q; split at q
    · obtain ⟨_, _, rfl, rfl, hs1⟩ := tS_inv hs
      obtain ⟨_, _, rfl, rfl, hs2⟩ := tS_inv hs1
      obtain ⟨_, _, rfl, ⟨a1, ha, rfl⟩, hs3⟩ := tS_inv hs2
      exact tASt rfl hg hw hl hs3 ha q
    · cases q
  case lastore =>
    unfold eStep at q; dsimp only at q; split at q
    · obtain ⟨_, _, rfl, rfl, hs1⟩ := tS_inv hs
      obtain ⟨_, _, rfl, rfl, hs2⟩ := tS_inv hs1
      obtain ⟨_, _, rfl, ⟨a1, ha, rfl⟩, hs3⟩ := tS_inv hs2
      exact tASt rfl hg hw hl hs3 ha q
    · cases q
  case bastore =>
    unfold eStep at q; dsimp only at q; split at q
    · obtain ⟨_, _, rfl, rfl, hs1⟩ := tS_inv hs
      obtain ⟨_, _, rfl, rfl, hs2⟩ := tS_inv hs1
      obtain ⟨_, _, rfl, ⟨a1, ha, rfl⟩, hs3⟩ := tS_inv hs2
      unfold eStep; dsimp only
      split at q
      · rename_i h; rw [if_pos h]; exact tASt rfl hg hw hl hs3 ha q
      · rename_i h; rw [if_neg h]; simp only [Bool.cond_eq_ite] at q ⊢; split at q
        · rename_i hT; rw [if_pos (tTg_t hw ha hT)]; exact tASt rfl hg hw hl hs3 ha q
        · split at q
          · rename_i h2; rw [if_neg (tTg_f hw ha q), if_pos h2]; exact tASt rfl hg hw hl hs3 ha q
          · cases q
    · cases q
  case arraylength =>
    unfold eStep at q; dsimp only at q; split at q
    · obtain ⟨_, _, rfl, ⟨a1, ha, rfl⟩, hs1⟩ := tS_inv hs
      split at q
      · rename_i t n9 g9 hc
        simp only [Bool.cond_eq_ite] at q; split at q
        · rename_i h
          obtain ⟨k', c', e1, e2, e3⟩ := tW_get hw hc
          cases ha.symm.trans e1
          rcases e3 with rfl | rfl
          · cases h
          · unfold eStep; dsimp only; rw [e2]; dsimp only; rw [h]; exact g q hl ⟨rfl, hs1⟩
        · cases q
      · cases q
    · cases q
  case invokestatic i =>
    unfold eStep at q ⊢; dsimp only at q ⊢
    cases hb : Nat.blt a 2000 with
    | true => rw [hb] at q; exact tCallT hg hw hl hs q
    | false => rw [hb] at q; exact tStaOp hg hw hl hs q
  case invokevirtual i =>
    unfold eStep at q ⊢; dsimp only at q ⊢
    cases hb : Nat.blt a 2000 with
    | true =>
      rw [hb, cond_true] at q
      rw [cond_true]
      cases h8 : Nat.beq a 8 with
      | true => rw [h8] at q; exact tCallI hg hw hl hs q
      | false => rw [h8] at q; exact tCallW hg hw hl hs q
    | false => rw [hb] at q; exact tStrOp hg hw hl hs q
  case invokespecial i =>
    unfold eStep at q ⊢; dsimp only at q ⊢
    cases hb : Nat.blt a 2000 with
    | true => rw [hb] at q; exact tCallI hg hw hl hs q
    | false =>
      rw [hb, cond_false] at q
      rw [cond_false]
      cases h5 : Nat.beq a 2005 with
      | true => rw [h5] at q; exact tInit hg hw hl hs q
      | false => rw [h5] at q; cases q
  all_goals (unfold eStep at q; dsimp only at q; cases q)
end T
theorem eLdc {M pc : Nat} {ins : Instr} {len kp a b : Nat} (h : eCode M pc = some (ins, (len, (kp, (a, b))))) : Nat.beq b 0 = false → (∃ i, ins = .ldc i ∨ ins = .ldc_w i) → a < 19 := by
  intro hb ⟨i, hi⟩
  have h1 := eChk_all M pc
  unfold eChk at h1
  rw [h] at h1
  simp only [Bool.and_eq_true] at h1
  have h2 := h1.2
  have h3 : eIn4 eSS (eOw M) i a = true := by
    rcases hi with rfl | rfl <;> (unfold eChkJ at h2; dsimp only at h2; rw [hb] at h2; exact h2.2)
  unfold eIn4 at h3
  obtain ⟨q, hq, h4⟩ := List.any_eq_true.mp h3
  simp only [Bool.and_eq_true, Nat.beq_eq] at h4
  have h9 := List.all_eq_true.mp eSS_ok q hq
  simp only [Bool.and_eq_true, decide_eq_true_eq, Nat.blt_eq] at h9
  rw [← h4.2.2]
  exact h9.2.2
theorem tRun {σ : Nat → eV} : ∀ n, tGood σ (eRun n)
  | 0 => fun _ _ _ _ _ _ _ q => by cases q
  | n + 1 => by
    intro M pc ls st W c r q α V d ls' st' hw hl hs
    have q : eBody (eRun n) (eRun n) (eRun n) M pc ls st (W, c) = some r := q
    show tP σ α W V c d r (eBody (eRun n) (eRun n) (eRun n) M pc ls' st' (V, d))
    unfold eBody at q ⊢
    split at q
    · rename_i ins len kp a b hc
      exact tStep (eLdc hc) (tRun n) hw (tL_take hl) hs q
    · cases q
/-- what a run in the small world says of ev in any -/
theorem tEv {σ : Nat → eV} : tGood σ ev := by
  intro M pc ls st W c r q α V d ls' st' hw hl hs
  obtain ⟨n, hn⟩ := ev_run q
  obtain ⟨β, V', d', o', h1, h2, h3⟩ := tRun n M pc ls st W c r hn α V d ls' st' hw hl hs
  exact ⟨β, V', d', o', ev_of h1, h2, h3⟩
