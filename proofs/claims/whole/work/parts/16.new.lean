/-! New objects and rows; rows of places; the JDK's own that are one step here. -/
theorem eAC_in : ∀ t ∈ [FieldType.int, FieldType.boolean, FieldType.byte, FieldType.long], Cond.arrayClass t ∈ eAll := by
  have h : ([FieldType.int, FieldType.boolean, FieldType.byte, FieldType.long].all fun t => decide (Cond.arrayClass t ∈ lw_tbl)) = true := by decide +kernel
  intro t ht
  exact List.mem_filter.mpr ⟨of_decide_eq_true (List.all_eq_true.mp h t ht), rfl⟩
theorem eRA {E : eE} {s : State} (hK : va_K E.1 vwCl (eTs E) s) {k : Nat} {cA cB : ClassId} {ty : FieldType} (h : (eTs E)[k]? = some (cA, ty)) (h2 : va_RA s cB ty) : cA = cB := by
  have h1 := (hK.2 k _ h).2
  cases ty with
  | object C =>
    obtain ⟨_, _, _, _, _, e1⟩ := h1
    obtain ⟨_, _, _, _, _, e2⟩ := h2
    exact Option.some.inj (e1.symm.trans e2)
  | _ =>
    have e1 : s.vm.findClass _ = some cA := h1
    have e2 : s.vm.findClass _ = some cB := h2
    exact Option.some.inj (e1.symm.trans e2)
theorem wr_clamp {n : Int} (h : 0 ≤ wr n) : ¬ Int32.ofInt n < 0 := fun z => by have := (wr_lt_iff n 0).mp z; have h0 : wr 0 = 0 := rfl; omega
section New
variable {p : Program} {l : Launch} {e : Env} {R : Room} {s : State} {m : MethodId} {args : Array Value} {below : List Frame} {meth : Method} {c : Code} {E : eE} {A : Nat → Prop} {X : List Nat × (Nat × Nat)} {r : (Option eV ⊕ Nat) × eW} {M pc len i a b : Nat} {ls : eL} {st : List eV} {w : eW} {J : eFn}
theorem o_new (hF : eFr p l R s m args meth c E A M) (hJ : ∀ (pc : Nat) (ls : eL) (st : List eV) (w : eW), J M pc ls st w = some r → eOk p l e R s m args below meth c E A X r M pc ls st w) (hR : r.2.2.1 ≤ R.cells + X.2.1 ∧ r.2.2.2 ≤ R.slots + X.2.2) (hd : decode (eByt M) pc = .ok (.new i, 3)) (hk9 : eIn4 eCS (eOw M) i a = true) (ha8 : a < 8)
    (q : J M (pc + 3) ls (.inr (.inl (some (eLen w.1))) :: st) (w.1 ++ [.inr (.inl (a, eDefs a))], (w.2.1 + 1, w.2.2 + eLen (eDefs a))) = some r) : eOk p l e R s m args below meth c E A X r M pc ls st w := by
  obtain ⟨hle, hk⟩ := hJ _ _ _ _ q
  rw [eDefs_len a ha8] at hle hk
  dsimp only at hle hk
  refine ⟨⟨by omega, by omega⟩, fun β ws H locs lsm stv kc ks hl hs hw hP hD hS h1 h2 => ?_⟩
  have hc := eCS_in hk9
  rw [show Nat.blt a 100 = true from by rw [Nat.blt_eq]; omega] at hc
  refine va_new (ci := a) (fs := eDv a) hF.1 hF.2.2.1 hF.2.2.2.2.2.2.2.1 (eLay_in a ha8) (eTy a) (eTy_ok a ha8) hF.2.2.2.2.2.1 (hF.2.2.2.2.2.2.2.1 _ hc) (hF.2.2.2.2.2.2.2.1 _ (eIns8_in a ha8)) (hF.2.2.2.2.2.2.2.1 _ (eIni_in a (by omega))) hF.2.2.2.2.2.2.2.2.2.2.1 hP hD hS hF.2.2.2.2.2.2.2.2.2.2.2.2.1 (eCl_at a ha8) (eDv_ok a ha8) (by omega) (by omega) hd (fun q9 H1 hP1 hD1 hS1 => ?_)
  refine hk (β ++ [q9]) _ H1 locs lsm _ (kc + 1) (ks + eN a) (by rw [← List.append_assoc]; exact lR_mono hl) (by rw [← List.append_assoc]; exact ⟨vR_new hw q9, sR_mono hs⟩) (by rw [← List.append_assoc]; exact wR_push hw ⟨_, rfl, eDv_sR _ _ a ha8, ha8, eDefs_len a ha8⟩) hP1 hD1 hS1 (by omega) (by omega)
theorem o_newa {at9 : ArrayType} {t : Nat} {ty : FieldType} {n : Int} {st : List eV} {cA9 : ClassId} (hF : eFr p l R s m args meth c E A M) (hJ : ∀ (pc : Nat) (ls : eL) (st : List eV) (w : eW), J M pc ls st w = some r → eOk p l e R s m args below meth c E A X r M pc ls st w) (hR : r.2.2.1 ≤ R.cells + X.2.1 ∧ r.2.2.2 ≤ R.slots + X.2.2) (hd : decode (eByt M) pc = .ok (.newarray at9, 2)) (hty : newarray.typeOf at9 = ty) (hmem : Cond.arrayClass ty ∈ eAll) (htt : (eTs E)[t]? = some (cA9, ty)) (hcb : componentBytes ty ≤ 8)
    (a0 : Nat → ((Nat → Int32) ⊕ (Nat → Int64) ⊕ (Nat → UInt32) ⊕ (Nat → UInt64) ⊕ (Nat → Option Nat))) (hcell : ∀ (N : Nat) (cA : ClassId), vp_cell cA (N, a0 N) = arrV cA N (fun _ => defaultValue ty)) (hcR : ∀ (α : List Nat) (N : Nat), cR E α (.inl (t, (N, fun _ => 0))) (.inl (cA9, N, a0 N)))
    (h0 : 0 ≤ wr n ∧ wr n ≤ 100000) (q : J M (pc + 2) ls (.inr (.inl (some (eLen w.1))) :: st) (w.1 ++ [.inl (t, ((wr n).toNat, fun _ => 0))], (w.2.1 + 1, w.2.2 + (wr n).toNat)) = some r) : eOk p l e R s m args below meth c E A X r M pc ls (.inl n :: st) w := by
  obtain ⟨hle, hk⟩ := hJ _ _ _ _ q
  dsimp only at hle hk
  refine ⟨⟨by omega, by omega⟩, fun β ws H locs lsm stv kc ks hl hs hw hP hD hS h1 h2 => ?_⟩
  obtain ⟨_, _, rfl, rfl, hs1⟩ := sR_inv hs
  have hb9 : (wr n).toNat * componentBytes ty ≤ 536870912 := Nat.le_trans (Nat.mul_le_mul (show (wr n).toNat ≤ 100000 by omega) hcb) (by decide)
  refine va_newa (a0 := ((wr n).toNat, a0 (wr n).toNat)) hF.1 hF.2.2.1 (by rw [hty]; exact hF.2.2.2.2.2.2.2.1 _ hmem) hty hF.2.2.2.2.2.2.2.2.2.2.1 hP hD hS hF.2.2.2.2.2.2.2.2.2.2.2.2.1 (fun cA => hcell _ cA) (wr_clamp h0.1) (wr_cl n h0.1) hb9 (by omega) (by omega) hd (fun q9 cA H1 hK1 hP1 hD1 hS1 => ?_)
  have hcA : cA9 = cA := eRA hF.2.2.2.2.2.2.2.2.2.2.1 htt (hK1.2 5 (cA, ty) rfl).2
  subst hcA
  refine hk (β ++ [q9]) _ H1 locs lsm _ (kc + 1) (ks + (wr n).toNat) (by rw [← List.append_assoc]; exact lR_mono hl) (by rw [← List.append_assoc]; exact ⟨vR_new hw q9, sR_mono hs1⟩) (by rw [← List.append_assoc]; exact wR_push hw (hcR _ _)) hP1 hD1 hS1 (by omega) (by omega)
theorem o_newarray {at9 : ArrayType} (hF : eFr p l R s m args meth c E A M) (hJ : ∀ (pc : Nat) (ls : eL) (st : List eV) (w : eW), J M pc ls st w = some r → eOk p l e R s m args below meth c E A X r M pc ls st w) (hR : r.2.2.1 ≤ R.cells + X.2.1 ∧ r.2.2.2 ≤ R.slots + X.2.2) (hd : decode (eByt M) pc = .ok (.newarray at9, 2))
    (q : (match at9 with
    | .int => eNewA J M pc 2 0 ls st w
    | .boolean => eNewA J M pc 2 1 ls st w
    | .byte => eNewA J M pc 2 2 ls st w
    | .long => eNewA J M pc 2 3 ls st w
    | _ => none) = some r) : eOk p l e R s m args below meth c E A X r M pc ls st w := by
  cases at9 <;> dsimp only at q <;> first
    | (cases q; done)
    | (unfold eNewA at q
       split at q
       · split at q
         · rename_i n st h0
           first
           | exact o_newa hF hJ hR hd (ty := .int) rfl (eAC_in _ (by decide)) (eTs_0 E) (by decide) (fun _ => .inl (fun _ => 0)) (fun _ _ => rfl) (fun α N => Or.inr ⟨_, _, by omega, eTs_0 E, rfl, fun h => by omega⟩) h0 q
           | exact o_newa hF hJ hR hd (ty := .boolean) rfl (eAC_in _ (by decide)) (eTs_1 E) (by decide) (fun _ => .inl (fun _ => 0)) (fun _ _ => rfl) (fun α N => Or.inr ⟨_, _, by omega, eTs_1 E, rfl, fun _ i => rfl⟩) h0 q
           | exact o_newa hF hJ hR hd (ty := .byte) rfl (eAC_in _ (by decide)) (eTs_2 E) (by decide) (fun _ => .inl (fun _ => 0)) (fun _ _ => rfl) (fun α N => Or.inr ⟨_, _, by omega, eTs_2 E, rfl, fun h => by omega⟩) h0 q
           | exact o_newa hF hJ hR hd (ty := .long) rfl (eAC_in _ (by decide)) (eTs_3 E) (by decide) (fun _ => .inr (.inl (fun _ => 0))) (fun _ _ => rfl) (fun α N => Or.inl ⟨rfl, rfl⟩) h0 q
         · cases q
       · cases q)
theorem o_anewarray (hF : eFr p l R s m args meth c E A M) (hJ : ∀ (pc : Nat) (ls : eL) (st : List eV) (w : eW), J M pc ls st w = some r → eOk p l e R s m args below meth c E A X r M pc ls st w) (hR : r.2.2.1 ≤ R.cells + X.2.1 ∧ r.2.2.2 ≤ R.slots + X.2.2) (hd : decode (eByt M) pc = .ok (.anewarray i, 3)) (hk9 : eIn4 eCS (eOw M) i 4 = true) (q : eNewQ J M pc ls st w = some r) : eOk p l e R s m args below meth c E A X r M pc ls st w := by
  unfold eNewQ at q; split at q
  · split at q
    · rename_i n st h0
      obtain ⟨hle, hk⟩ := hJ _ _ _ _ q
      dsimp only at hle hk
      refine ⟨⟨by omega, by omega⟩, fun β ws H locs lsm stv kc ks hl hs hw hP hD hS h1 h2 => ?_⟩
      obtain ⟨_, _, rfl, rfl, hs1⟩ := sR_inv hs
      refine va_newq hF.1 hF.2.2.1 hF.2.2.2.2.2.1 (hF.2.2.2.2.2.2.2.1 _ (eCS_in hk9)) hF.2.2.2.2.2.2.2.2.2.2.2.1.2.1 hF.2.2.2.2.2.2.2.2.2.2.1 hP hD hS hF.2.2.2.2.2.2.2.2.2.2.2.2.1 (wr_clamp h0.1) (wr_cl n h0.1) (by omega) (by omega) (by omega) hd (fun q9 cA H1 hK1 hP1 hD1 hS1 => ?_)
      have hcA : E.2.1.2.2.2.2 = cA := eRA hF.2.2.2.2.2.2.2.2.2.2.1 (eTs_4 E) (hK1.2 5 (cA, .object "ShopCross$Window") rfl).2
      subst hcA
      refine hk (β ++ [q9]) _ H1 locs lsm _ (kc + 1) (ks + (wr n).toNat) (by rw [← List.append_assoc]; exact lR_mono hl) (by rw [← List.append_assoc]; exact ⟨vR_new hw q9, sR_mono hs1⟩) (by rw [← List.append_assoc]; exact wR_push hw ⟨_, rfl, fun _ _ => rfl⟩) hP1 hD1 hS1 (by omega) (by omega)
    · cases q
  · cases q
theorem o_aaload (hF : eFr p l R s m args meth c E A M) (hJ : ∀ (pc : Nat) (ls : eL) (st : List eV) (w : eW), J M pc ls st w = some r → eOk p l e R s m args below meth c E A X r M pc ls st w) (hd : decode (eByt M) pc = .ok (.aaload, 1)) (q : eQLd J M pc ls st w = some r) : eOk p l e R s m args below meth c E A X r M pc ls st w := by
  unfold eQLd at q; split at q
  · rename_i i9 k9 st
    split at q
    · rename_i n f hc
      split at q
      · rename_i hi
        refine o_stepW (hJ _ _ _ _ q) (fun β ws H locs lsm stv kc ks Q hs hw hP hD hS k => ?_)
        obtain ⟨_, _, rfl, rfl, hs1⟩ := sR_inv hs
        obtain ⟨x, _, rfl, hx, hs2⟩ := sR_inv hs1
        rcases wR_get hw hc with ⟨rfl, h9⟩ | ⟨k1, a1, e1, rfl, ha, he, hr⟩
        · cases h9
        · obtain ⟨a2, ha2, rfl⟩ := vR_ref hx
          cases ha.symm.trans ha2
          obtain ⟨g, rfl, hg⟩ := hr
          refine va_aldq hF.1 hF.2.2.1 hF.2.2.2.2.2.2.2.2.2.2.1 hP k1 4 he (eTs_4 E) (wr_in hi) hd ?_
          refine k ws H locs _ ⟨?_, hs2⟩ hw hP hD hS
          rw [wr_cl _ hi.1]
          exact hg _ (by omega)
      · cases q
    · cases q
  · cases q
theorem o_aastore (hF : eFr p l R s m args meth c E A M) (hJ : ∀ (pc : Nat) (ls : eL) (st : List eV) (w : eW), J M pc ls st w = some r → eOk p l e R s m args below meth c E A X r M pc ls st w) (hd : decode (eByt M) pc = .ok (.aastore, 1)) (q : eQSt J 4 M pc ls st w = some r) : eOk p l e R s m args below meth c E A X r M pc ls st w := by
  unfold eQSt at q; split at q
  · rename_i v9 i9 k9 st
    split at q
    · rename_i n f hc
      split at q
      · rename_i c9 fs9 hcv
        simp only [Bool.cond_eq_ite] at q; split at q
        · rename_i ht
          split at q
          · rename_i hi
            refine o_stepW (hJ _ _ _ _ q) (fun β ws H locs lsm stv kc ks Q hs hw hP hD hS k => ?_)
            obtain ⟨y, _, rfl, hy, hs1⟩ := sR_inv hs
            obtain ⟨_, _, rfl, rfl, hs2⟩ := sR_inv hs1
            obtain ⟨x, _, rfl, hx, hs3⟩ := sR_inv hs2
            obtain rfl := Nat.eq_of_beq_eq_true ht
            rcases wR_get hw hc with ⟨rfl, h9⟩ | ⟨k1, a1, e1, rfl, ha, he, hr⟩
            · cases h9
            · rcases wR_get hw hcv with ⟨rfl, h9⟩ | ⟨k2, a2, e2, rfl, ha2, he2, hr2⟩
              · cases h9
              · obtain ⟨a3, ha3, rfl⟩ := vR_ref hx
                cases ha.symm.trans ha3
                obtain ⟨a4, ha4, rfl⟩ := vR_ref hy
                cases ha2.symm.trans ha4
                obtain ⟨g, rfl, hg⟩ := hr
                obtain ⟨vs, rfl, -, -, -⟩ := hr2
                refine va_astq hF.1 hF.2.2.1 hF.2.2.2.2.2.2.2.2.2.2.1 hP hD hS k1 4 k2 4 he (eTs_4 E) he2 (eCl_at 4 (by omega)) (wr_in hi) hd (fun H1 locs1 hP1 hD1 hS1 => ?_)
                rw [wr_cl _ hi.1] at hP1 hD1
                refine k _ H1 locs1 _ hs3 (wR_set hw ha ⟨_, rfl, fun j hj => ?_⟩) hP1 hD1 hS1
                unfold eUp va_up
                by_cases hji : j = (wr i9).toNat
                · rw [if_pos hji, if_pos hji]; exact hy
                · rw [if_neg hji, if_neg hji]; exact hg j hj
          · cases q
        · cases q
      · cases q
    · cases q
  · cases q
theorem eSS_at {p9 : Nat} (hF : eFr p l R s m args meth c E A M) (h : (eOw M, (i, (a, p9))) ∈ eSS) : vk_R (eCN (eOw M)) i (eTx a) (E.2.2.2.1 a) s := by
  obtain ⟨-, -, -, -, -, -, ⟨-, s2, -, -⟩, -⟩ := hF.2.2.2.2.2.2.2.2.2.2.2.1
  have h9 := s2 _ h
  dsimp only at h9
  exact h9
theorem o_ldc (hF : eFr p l R s m args meth c E A M) (hJ : ∀ (pc : Nat) (ls : eL) (st : List eV) (w : eW), J M pc ls st w = some r → eOk p l e R s m args below meth c E A X r M pc ls st w) (hd : decode (eByt M) pc = .ok (.ldc i, 2)) (hk : (bif Nat.beq b 0 then eIn4 eKS (eOw M) i a else eIn4 eSS (eOw M) i a) = true) (q : (bif Nat.beq b 0 then J M (pc + 2) ls (.inl (a : Int) :: st) w else J M (pc + 2) ls (.inr (.inr (.inr (.inr (.inr a)))) :: st) w) = some r) : eOk p l e R s m args below meth c E A X r M pc ls st w := by
  cases hb : Nat.beq b 0 with
  | true =>
    rw [hb] at hk q
    exact o_push (v := .inl (a : Int)) (x := .int (Int32.ofInt (a : Int))) hJ (fun _ => rfl) q (fun k => lv_ldc hF.1 hF.2.2.1 hF.2.2.2.2.2.1 (hF.2.2.2.2.2.2.2.1 _ (eKS_in hk)) hd k)
  | false =>
    rw [hb] at hk q
    obtain ⟨p9, hp9⟩ := eIn4_spec hk
    have h9 := eSS_at hF hp9
    exact o_push (v := .inr (.inr (.inr (.inr (.inr a))))) (x := .ref (E.2.2.2.1 a)) hJ (fun _ => rfl) q (fun k => va_ldcS (own := eCN (eOw M)) (tx := eTx a) hF.1 hF.2.2.1 hF.2.2.2.2.2.1 h9 hd k)
theorem va_ldcSW (hexec : p.tables.exec = Jvm.exec) {cc : ByteArray} (hb : c.code = cc) {H : Heap} {locs : List Loc} {cells slots : Nat} {Q : State → Prop} {pc : Nat} {ls : Array Slot} {rest : List Value} {own tx : String} {index q : Nat} (hown : s.vm.findClass own = some m.cls) (hZ : vk_R own index tx q s) (hdg : decode cc pc = .ok (.ldc_w index, 3))
    (k : W p l e R s m args below meth c H locs cells slots Q (F0 m (pc + 3) ls (.ref q :: rest))) : W p l e R s m args below meth c H locs cells slots Q (F0 m pc ls rest) := by
  intro T hT X
  obtain ⟨t, a1, b1⟩ := k T hT X
  exact ⟨t, X.ldcStringW hexec hown (text := tx) (a := q) hZ.1 hZ.2 (g := F0 m pc ls rest) rfl (by rw [hb]; exact hdg) t a1, b1⟩
theorem o_ldcw (hF : eFr p l R s m args meth c E A M) (hJ : ∀ (pc : Nat) (ls : eL) (st : List eV) (w : eW), J M pc ls st w = some r → eOk p l e R s m args below meth c E A X r M pc ls st w) (hd : decode (eByt M) pc = .ok (.ldc_w i, 3)) (hk : (bif Nat.beq b 0 then eIn4 eKS (eOw M) i a else eIn4 eSS (eOw M) i a) = true) (q : (bif Nat.beq b 0 then J M (pc + 3) ls (.inl (a : Int) :: st) w else J M (pc + 3) ls (.inr (.inr (.inr (.inr (.inr a)))) :: st) w) = some r) : eOk p l e R s m args below meth c E A X r M pc ls st w := by
  cases hb : Nat.beq b 0 with
  | true =>
    rw [hb] at hk q
    exact o_push (v := .inl (a : Int)) (x := .int (Int32.ofInt (a : Int))) hJ (fun _ => rfl) q (fun k => lv_ldcw hF.1 hF.2.2.1 hF.2.2.2.2.2.1 (hF.2.2.2.2.2.2.2.1 _ (eKS_in hk)) hd k)
  | false =>
    rw [hb] at hk q
    obtain ⟨p9, hp9⟩ := eIn4_spec hk
    have h9 := eSS_at hF hp9
    exact o_push (v := .inr (.inr (.inr (.inr (.inr a))))) (x := .ref (E.2.2.2.1 a)) hJ (fun _ => rfl) q (fun k => va_ldcSW (own := eCN (eOw M)) (tx := eTx a) hF.1 hF.2.2.1 hF.2.2.2.2.2.1 h9 hd k)
end New
