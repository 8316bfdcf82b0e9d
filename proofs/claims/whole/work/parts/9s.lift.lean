/-! The questions in the law's world. -/
theorem rL_int {σ : Nat → eV} {α : List Nat} {l : eL} : ∀ {as : eL}, allI as = true → rL σ α (as ++ l) = as ++ rL σ α l
  | [], _ => rfl
  | some (.inl x) :: as, h => by
    show some (.inl x) :: rL σ α (as ++ l) = some (.inl x) :: (as ++ rL σ α l)
    rw [rL_int (as := as) h]
  | none :: _, h => by cases h
  | some (.inr _) :: _, h => by cases h
theorem okLU_int {σ : Nat → eV} {n : Nat} {l : eL} (hl : okLU σ n l = true) : ∀ {as : eL}, allI as = true → okLU σ n (as ++ l) = true
  | [], _ => hl
  | some (.inl _) :: as, h => okLU_int hl (as := as) h
  | none :: _, h => by cases h
  | some (.inr _) :: _, h => by cases h
def σX (k : Nat) : eV := bif Nat.beq k 19 then eR 2 else bif Nat.beq k 20 then eR 3 else bif Nat.beq k 21 then eR 46 else bif Nat.beq k 22 then eR 66 else bif Nat.beq k 23 then eR 68 else bif Nat.beq k 24 then eR 69 else eSt k
def σY (k : Nat) : eV := bif Nat.beq k 20 then eR 72 else bif Nat.beq k 21 then eR 73 else bif Nat.beq k 22 then eR 74 else bif Nat.beq k 23 then eR 75 else bif Nat.beq k 24 then eR 78 else bif Nat.beq k 25 then eR 79 else bif Nat.beq k 26 then eR 80 else eSt k
theorem nin_bC {k : Nat} (h : k < 26 ∨ 46 ≤ k) : ninL k (wLf bC) = true := wLf_nin (fun i hi => by show k ≠ 26 + i; omega)
theorem nin_2 {k a b : Nat} {l : List Nat} (h1 : k ≠ a) (h2 : k ≠ b) (h3 : ninL k l = true) : ninL k ([a, b] ++ l) = true := by
  refine ninL_app (ninL_iff (fun x hx => ?_)) h3
  rcases List.mem_cons.mp hx with h | h
  · omega
  · have := List.mem_singleton.mp h; omega
theorem lqV {y : Nat} {as : eL} {a : eRow} {t v : Int} {V : List eC} {d : Nat × Nat} {x : xT} {ot : Nat → Int} (h : LQ y as a t v) (C : CI V a x) (ho : eNth V 81 = some (eA 3 1 ot)) (ha : allI as = true) : ∃ (V' : List eC) (ot' : Nat → Int) (d' : Nat × Nat), ev y 0 (some (eR 1) :: (as ++ [some (eR 81)])) [] (V, d) = some (.inl (some (eI t)), (V', d')) ∧ CI V' a x ∧ eNth V' 81 = some (eA 3 1 ot') ∧ (t = 0 → ot' 0 = wr v) ∧ frC V V' ∧ dl d d' := by
  obtain ⟨⟨S, w1, w2, w3⟩, c2, c3, c4, c5⟩ := C
  have c5' := c5
  obtain ⟨P, oY, o1, o2⟩ := c5
  obtain ⟨S', ot', x1, x2, q1, q2, q3, q4, q5⟩ := h P S ot w2
  obtain ⟨V', e1, e2, e3⟩ := xAtR (σ := σX) (α := [1, 81] ++ wLf bC) (V := V) (d := d) (as' := some (eR 1) :: (as ++ [some (eR 81)])) (o' := .inl (some (eI t))) q5 (atL_app (as := [1, 81]) (cs := [xC P, eA 3 1 ot]) ⟨o1, ho, trivial⟩ w1) rfl rfl rfl rfl rfl (okLU_int (σ := σX) (l := [some (eR 1)]) rfl ha) (by
    show some (eR 1) :: rL σX ([1, 81] ++ wLf bC) (as ++ [some (eR 1)]) = _
    rw [rL_int ha]
    rfl) rfl
  have e2' : atL V' ([1, 81] ++ wLf bC) ([xC P, eA 3 1 ot'] ++ wCf bC S') := e2
  obtain ⟨f1, f2, f3⟩ := e2'
  have hf : ∀ k, k ≠ 81 → (k < 26 ∨ 46 ≤ k) → eNth V' k = eNth V k := fun k h1 h2 => by
    by_cases hk : k = 1
    · subst hk; exact f1.trans o1.symm
    · exact e3.2 k (nin_2 hk h1 (nin_bC h2))
  refine ⟨V', ot', _, e1, ⟨⟨S', f3, q1, w3⟩, CT_fr (fun k hk => hf k (by omega) (by omega)) c2, CH_fr (Nat.le_of_eq e3.1.symm) (fun k hk => hf k (by omega) (by omega)) c3, CN_fr (fun k hk => hf k (by omega) (by omega)) c4, CO_fr (fun k hk => hf k (by omega) (by omega)) c5'⟩, f2, q2, ⟨Nat.le_of_eq e3.1.symm, fun k hk => hf k (by omega) (by omega)⟩, by unfold dl; dsimp only; omega⟩
theorem MI_t {V V' : List eC} {a : eRow} {x : xT} {t0 t : Int} {mk' : Nat → Int} (M : MI V a x t0) (hP : ∀ P, eNth V 70 = some (mX P) → eNth V' 70 = some (mX (eUp P 10 t))) (hm : eNth V' 76 = some (eA 0 144 mk')) (hf : ∀ k, 70 ≤ k ∧ k ≤ 80 → k ≠ 70 → k ≠ 76 → eNth V' k = eNth V k) : MI V' a x t := by
  obtain ⟨P, g, gp, gt, gr, gs, mk, fr, kp, bM, oM, us, ⟨c0, c1, c2, c3, c4, c5, c6, c7, c8, c9, c10⟩, r1, r2, r3, r4, r5, r6, r7⟩ := M
  refine ⟨eUp P 10 t, g, gp, gt, gr, gs, mk', fr, kp, bM, oM, us, ⟨hP P c0, (hf 71 (by omega) (by omega) (by omega)).trans c1, (hf 72 (by omega) (by omega) (by omega)).trans c2, (hf 73 (by omega) (by omega) (by omega)).trans c3, (hf 74 (by omega) (by omega) (by omega)).trans c4, (hf 75 (by omega) (by omega) (by omega)).trans c5, hm, (hf 77 (by omega) (by omega) (by omega)).trans c7, (hf 78 (by omega) (by omega) (by omega)).trans c8, (hf 79 (by omega) (by omega) (by omega)).trans c9, (hf 80 (by omega) (by omega) (by omega)).trans c10⟩, r1, eUp_at, ?_, ?_, ?_, ?_, r7⟩
  · rw [eUp_ne (by omega)]; exact r3
  · cases hx : x.2.2.2.1 with
    | none => rw [hx] at r4; exact ⟨by rw [eUp_ne (by omega)]; exact r4.1, by rw [eUp_ne (by omega)]; exact r4.2⟩
    | some z => obtain ⟨k, s⟩ := z; rw [hx] at r4; exact ⟨by rw [eUp_ne (by omega)]; exact r4.1, by rw [eUp_ne (by omega)]; exact r4.2.1, r4.2.2⟩
  · rw [eUp_ne (by omega)]; exact r5
  · rw [eUp_ne (by omega), eUp_ne (by omega)]; exact r6
theorem nqU {V : List eC} {d : Nat × Nat} {a : eRow} {x : xT} {t0 t : Int} {y : Nat} {as : eL} {p : eV → Prop} (M : MI V a x t0) (ha : allI as = true) (h : ∀ P g mk fr : Nat → Int, rg g a → ∃ (mk' : Nat → Int) (v : eV), p v ∧ rV σY [71, 70, 76, 77] v = v ∧ ev y 0 (some (eR 1) :: as) [] ([eA 0 964 g, mZ P, eA 0 144 mk, eA 0 24 fr], (0, 0)) = some (.inl (some v), ([eA 0 964 g, mZ (eUp P 10 t), eA 0 144 mk', eA 0 24 fr], (0, 0)))) : ∃ (V' : List eC) (v : eV), p v ∧ ev y 0 (some (eR 70) :: as) [] (V, d) = some (.inl (some v), (V', d)) ∧ MI V' a x t ∧ frM V V' := by
  have M' := M
  obtain ⟨P, g, gp, gt, gr, gs, mk, fr, kp, bM, oM, us, ⟨c0, c1, c2, c3, c4, c5, c6, c7, c8, c9, c10⟩, ⟨r1, r2⟩, r3⟩ := M
  obtain ⟨mk', v, hpv, hv2, q⟩ := h P g mk fr r1
  have hint : rL σY [71, 70, 76, 77] as = as := by
    have := rL_int (σ := σY) (α := [71, 70, 76, 77]) (l := []) ha
    rw [List.append_nil] at this
    rw [this]
    exact List.append_nil as
  have hok : okLU σY 4 as = true := by
    have := okLU_int (σ := σY) (n := 4) (l := []) rfl ha
    rw [List.append_nil] at this
    exact this
  obtain ⟨V', e1, e2, e3⟩ := xAtR (σ := σY) (α := [71, 70, 76, 77]) (V := V) (d := d) (as' := some (eR 70) :: as) (o' := .inl (some v)) q ⟨c1, c0, c6, c7, trivial⟩ rfl rfl rfl rfl rfl hok (by
    show some (eR 70) :: rL σY [71, 70, 76, 77] as = _
    rw [hint]) (by show (Sum.inl (some (rV σY [71, 70, 76, 77] v)) : Option eV ⊕ Nat) = _; rw [hv2])
  obtain ⟨f1, f0, f6, f7, -⟩ := e2
  have hf : ∀ k, k ≠ 70 → k ≠ 76 → eNth V' k = eNth V k := fun k h1 h2 => by
    by_cases hk : k = 71
    · subst hk; exact f1.trans c1.symm
    · by_cases hk7 : k = 77
      · subst hk7; exact f7.trans c7.symm
      · refine e3.2 k (ninL_iff (fun x hx => ?_))
        simp only [List.mem_cons, List.not_mem_nil, or_false] at hx
        omega
  refine ⟨V', v, hpv, e1, MI_t M' (fun P9 h9 => ?_) f6 (fun k _ h1 h2 => hf k h1 h2), e3.1, fun k hk => hf k (by omega) (by omega)⟩
  have he : mX P9 = mX P := by
    rw [c0] at h9
    exact (Option.some.inj h9).symm
  have h21 : mX (eUp P9 10 t) = mX (eUp P 10 t) := by
    unfold mX at he ⊢
    injection he with he
    injection he with he
    injection he with he1 he2
    simp only [List.cons.injEq, Sum.inl.injEq, and_true, true_and] at he2
    obtain ⟨k1, k2, k3, k4, k5, k6, k7, k8, k9, k10, k11, k12⟩ := he2
    have n8 : ∀ Q : Nat → Int, ∀ j, j ≠ 10 → eUp Q 10 t j = Q j := fun Q j hj => eUp_ne hj
    rw [n8 P9 8 (by omega), n8 P9 9 (by omega), n8 P9 12 (by omega), n8 P9 13 (by omega), n8 P9 14 (by omega), n8 P9 15 (by omega), n8 P9 16 (by omega), n8 P9 17 (by omega), n8 P9 18 (by omega), n8 P9 19 (by omega), n8 P9 21 (by omega), n8 P 8 (by omega), n8 P 9 (by omega), n8 P 12 (by omega), n8 P 13 (by omega), n8 P 14 (by omega), n8 P 15 (by omega), n8 P 16 (by omega), n8 P 17 (by omega), n8 P 18 (by omega), n8 P 19 (by omega), n8 P 21 (by omega), eUp_at, eUp_at, k1, k2, k4, k5, k6, k7, k8, k9, k10, k11, k12]
  rw [h21]
  exact f0
theorem nqV {V : List eC} {d : Nat × Nat} {a : eRow} {x : xT} {t0 t v : Int} {y : Nat} {as : eL} (h : NQ y as a t v) (M : MI V a x t0) (ha : allI as = true) : ∃ (V' : List eC) (b : Int), ev y 0 (some (eR 70) :: as) [] (V, d) = some (.inl (some (eI b)), (V', d)) ∧ MI V' a x t ∧ (t = 0 → b = v) ∧ frM V V' := by
  obtain ⟨V', z, ⟨b, hb, hz⟩, q1, q2, q3⟩ := nqU (d := d) (y := y) (as := as) (t := t) (p := fun z => ∃ b : Int, z = eI b ∧ (t = 0 → b = v)) M ha (fun P g mk fr hg => by
    obtain ⟨mk', b, h1, h2⟩ := h P g mk fr hg
    exact ⟨mk', eI b, ⟨b, rfl, h1⟩, rfl, h2⟩)
  subst hb
  exact ⟨V', b, q1, q2, hz, q3⟩
/-- what was thrown -/
theorem thrV {V : List eC} {d : Nat × Nat} {a : eRow} {x : xT} {t : Int} (M : MI V a x t) : ev m_M_thrown 0 [some (eR 70)] [] (V, d) = some (.inl (some (eI t)), (V, d)) := by
  obtain ⟨P, g, gp, gt, gr, gs, mk, fr, kp, bM, oM, us, ⟨c0, -⟩, r1, r2, r3⟩ := M
  refine xGetV (N := 2) (M2 := m_M_thrown) (pc2 := 1) (r := 70) (ls2 := [some (eR 70)]) (st2 := []) (V := V) (d := d) (v := eI (P 10)) rfl c0 rfl ?_
  refine xSeg (N := 1) (r := some (.inl (some (eI (P 10))), (V, d))) rfl ?_
  rw [r2]
/-- a question without an argument, of the class -/
def LV (y : Nat) (a : eRow) (v : eV) : Prop := ∀ (P : Nat → Int) (S : wS) (ot : Nat → Int), wA S a → ∃ S' : wS, wA S' a ∧ ev y 0 [some (eR 0)] [] ([xO P, eA 3 1 ot] ++ wCb 2 S, (0, 0)) = some (.inl (some v), ([xO P, eA 3 1 ot] ++ wCb 2 S', (0, 0)))
def NV (y : Nat) (a : eRow) (v : eV) : Prop := ∀ P g mk fr : Nat → Int, rg g a → ∃ mk' : Nat → Int, ev y 0 [some (eR 1)] [] ([eA 0 964 g, mZ P, eA 0 144 mk, eA 0 24 fr], (0, 0)) = some (.inl (some v), ([eA 0 964 g, mZ (eUp P 10 0), eA 0 144 mk', eA 0 24 fr], (0, 0)))
theorem lvV {y : Nat} {a : eRow} {v : eV} {V : List eC} {d : Nat × Nat} {x : xT} {ot : Nat → Int} (h : LV y a v) (C : CI V a x) (ho : eNth V 81 = some (eA 3 1 ot)) (hv2 : rV σX ([1, 81] ++ wLf bC) v = v) : ∃ (V' : List eC), ev y 0 [some (eR 1)] [] (V, d) = some (.inl (some v), (V', d)) ∧ CI V' a x ∧ eNth V' 81 = some (eA 3 1 ot) ∧ frC V V' := by
  obtain ⟨⟨S, w1, w2, w3⟩, c2, c3, c4, c5⟩ := C
  have c5' := c5
  obtain ⟨P, oY, o1, o2⟩ := c5
  obtain ⟨S', q1, q5⟩ := h P S ot w2
  obtain ⟨V', e1, e2, e3⟩ := xAtR (σ := σX) (α := [1, 81] ++ wLf bC) (V := V) (d := d) (as' := [some (eR 1)]) (o' := .inl (some v)) q5 (atL_app (as := [1, 81]) (cs := [xC P, eA 3 1 ot]) ⟨o1, ho, trivial⟩ w1) rfl rfl rfl rfl rfl rfl rfl (by show (Sum.inl (some (rV σX ([1, 81] ++ wLf bC) v)) : Option eV ⊕ Nat) = _; rw [hv2])
  have e2' : atL V' ([1, 81] ++ wLf bC) ([xC P, eA 3 1 ot] ++ wCf bC S') := e2
  obtain ⟨f1, f2, f3⟩ := e2'
  have hf : ∀ k, k ≠ 81 → (k < 26 ∨ 46 ≤ k) → eNth V' k = eNth V k := fun k h1 h2 => by
    by_cases hk : k = 1
    · subst hk; exact f1.trans o1.symm
    · exact e3.2 k (nin_2 hk h1 (nin_bC h2))
  exact ⟨V', e1, ⟨⟨S', f3, q1, w3⟩, CT_fr (fun k hk => hf k (by omega) (by omega)) c2, CH_fr (Nat.le_of_eq e3.1.symm) (fun k hk => hf k (by omega) (by omega)) c3, CN_fr (fun k hk => hf k (by omega) (by omega)) c4, CO_fr (fun k hk => hf k (by omega) (by omega)) c5'⟩, f2, ⟨Nat.le_of_eq e3.1.symm, fun k hk => hf k (by omega) (by omega)⟩⟩
theorem nvV {V : List eC} {d : Nat × Nat} {a : eRow} {x : xT} {t0 : Int} {y : Nat} {v : eV} (h : NV y a v) (M : MI V a x t0) (hv2 : rV σY [71, 70, 76, 77] v = v) : ∃ (V' : List eC), ev y 0 [some (eR 70)] [] (V, d) = some (.inl (some v), (V', d)) ∧ MI V' a x 0 ∧ frM V V' := by
  obtain ⟨V', z, hz, q1, q2, q3⟩ := nqU (d := d) (y := y) (as := []) (t := 0) (p := fun z => z = v) M rfl (fun P g mk fr hg => by
    obtain ⟨mk', h2⟩ := h P g mk fr hg
    exact ⟨mk', v, rfl, hv2, h2⟩)
  subst hz
  exact ⟨V', q1, q2, q3⟩
