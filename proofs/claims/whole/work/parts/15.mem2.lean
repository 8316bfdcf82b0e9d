/-! The words of the sites; more cells: fields, rows of bytes, new ones. -/
theorem eIn4_spec {l : List (Nat × (Nat × (Nat × Nat)))} {c i a : Nat} (h : eIn4 l c i a = true) : ∃ p, (c, (i, (a, p))) ∈ l := by
  obtain ⟨⟨c', i', a', p⟩, hq, h2⟩ := List.any_eq_true.mp h
  simp only [Bool.and_eq_true, Nat.beq_eq] at h2
  obtain ⟨rfl, rfl, rfl⟩ := h2
  exact ⟨p, hq⟩
theorem eIn5_spec {l : List (Nat × (Nat × (Nat × (Nat × Nat))))} {c i a b : Nat} (h : eIn5 l c i a b = true) : ∃ p, (c, (i, (a, (b, p)))) ∈ l := by
  obtain ⟨⟨c', i', a', b', p⟩, hq, h2⟩ := List.any_eq_true.mp h
  simp only [Bool.and_eq_true, Nat.beq_eq] at h2
  obtain ⟨rfl, rfl, rfl, rfl⟩ := h2
  exact ⟨p, hq⟩
theorem eKS_in {c i a : Nat} (h : eIn4 eKS c i a = true) : Cond.constant (eCN c) i (Int32.ofInt (a : Int)) ∈ eAll := by
  obtain ⟨p, hp⟩ := eIn4_spec h
  exact eAll_of (of_decide_eq_true (List.all_eq_true.mp eKS_ok _ hp)) rfl
theorem eFS_in {c i a b : Nat} (h : eIn5 eFS c i a b = true) : Cond.fieldLink (eCN c) i (eCN a) (eFT a b).2.1 (eFT a b).2.2.1 ∈ eAll := by
  obtain ⟨p, hp⟩ := eIn5_spec h
  exact eAll_of (of_decide_eq_true (List.all_eq_true.mp eFS_ok _ hp)) rfl
theorem eCS_in {c i a : Nat} (h : eIn4 eCS c i a = true) : Cond.classLink (eCN c) i (bif Nat.blt a 100 then eCN a else eExN (a - 100)) ∈ eAll := by
  obtain ⟨p, hp⟩ := eIn4_spec h
  exact eAll_of (of_decide_eq_true (List.all_eq_true.mp eCS_ok _ hp)) rfl
theorem eMS_in {c i a : Nat} (h : eIn5 eMS c i a 0 = true) : Cond.methodLink (eCN c) i (eNm a) ∈ eAll := by
  obtain ⟨p, hp⟩ := eIn5_spec h
  exact eAll_of (of_decide_eq_true (List.all_eq_true.mp eMS_ok _ hp)) rfl
theorem eMS_in1 {c i a : Nat} (h : eIn5 eMS c i a 1 = true) : Cond.methodLinkNest (eCN c) i (eNm a) "ShopCross" ∈ eSp := by
  obtain ⟨p, hp⟩ := eIn5_spec h
  exact List.mem_filter.mpr ⟨List.mem_of_getElem? (of_decide_eq_true (List.all_eq_true.mp eMS_ok _ hp)), rfl⟩
theorem eIni_in : ∀ k, k < 10 → Cond.initialized (eCN k) ∈ eAll := by
  intro k hk
  have h : ∀ k, k < 10 → eIni.any (fun q => Nat.beq q.1 k) = true := by decide +kernel
  obtain ⟨⟨k', p⟩, hq, h2⟩ := List.any_eq_true.mp (h k hk)
  simp only [Nat.beq_eq] at h2
  subst h2
  exact eAll_of (of_decide_eq_true (List.all_eq_true.mp eIni_ok _ hq)) rfl
theorem eIns8_in : ∀ k, k < 8 → Cond.instantiable (eCN k) (eN k) ∈ eAll := by
  intro k hk
  have h : ∀ k, k < 8 → eIns8.any (fun q => Nat.beq q.1 k) = true := by decide +kernel
  obtain ⟨⟨k', n, p⟩, hq, h2⟩ := List.any_eq_true.mp (h k hk)
  simp only [Nat.beq_eq] at h2
  subst h2
  exact eAll_of (of_decide_eq_true (List.all_eq_true.mp eIns8_ok _ hq)) rfl
def eLay (a : Nat) : Bool := (u_ws (eCN a) (eFT a) (eN a)).all fun w => decide (w ∈ lw_tbl)
theorem eLay_0 : eLay 0 = true := by decide +kernel
theorem eLay_1 : eLay 1 = true := by decide +kernel
theorem eLay_2 : eLay 2 = true := by decide +kernel
theorem eLay_3 : eLay 3 = true := by decide +kernel
theorem eLay_4 : eLay 4 = true := by decide +kernel
theorem eLay_5 : eLay 5 = true := by decide +kernel
theorem eLay_6 : eLay 6 = true := by decide +kernel
theorem eLay_7 : eLay 7 = true := by decide +kernel
theorem eLay_in : ∀ a, a < 8 → ∀ w ∈ u_ws (eCN a) (eFT a) (eN a), w ∈ eAll := by
  intro a ha w hw
  have h : eLay a = true := by
    match a, ha with
    | 0, _ => exact eLay_0
    | 1, _ => exact eLay_1
    | 2, _ => exact eLay_2
    | 3, _ => exact eLay_3
    | 4, _ => exact eLay_4
    | 5, _ => exact eLay_5
    | 6, _ => exact eLay_6
    | 7, _ => exact eLay_7
  refine List.mem_filter.mpr ⟨of_decide_eq_true (List.all_eq_true.mp h w hw), ?_⟩
  obtain ⟨k, -, rfl⟩ := List.mem_map.mp hw
  unfold u_lay
  split <;> rfl
theorem eTy_ok : ∀ a, a < 8 → ∀ k, k < eN a → parseFieldDescriptor (eFT a k).2.2.1 = some (eTy a k) := by
  intro a ha
  match a, ha with
  | 0, _ => exact tyX0_ok
  | 1, _ => exact tyX1_ok
  | 2, _ => exact tyX2_ok
  | 3, _ => exact tyX3_ok
  | 4, _ => exact tyX4_ok
  | 5, _ => exact tyX5_ok
  | 6, _ => exact tyX6_ok
  | 7, _ => exact tyX7_ok
theorem eNm_ok : ∀ a, a < 8 → ∀ x, x < eN a → ∀ y, y < eN a → x ≠ y → (eFT a x).2.1 ≠ (eFT a y).2.1 := by
  intro a ha
  match a, ha with
  | 0, _ => exact nmX0
  | 1, _ => exact nmX1
  | 2, _ => exact nmX2
  | 3, _ => exact nmX3
  | 4, _ => exact nmX4
  | 5, _ => exact nmX5
  | 6, _ => exact nmX6
  | 7, _ => exact nmX7
theorem eCl_at : ∀ a, a < 8 → vwCl[a]? = some (eCN a, eFT a, eN a) := by
  intro a ha
  match a, ha with
  | 0, _ => rfl
  | 1, _ => rfl
  | 2, _ => rfl
  | 3, _ => rfl
  | 4, _ => rfl
  | 5, _ => rfl
  | 6, _ => rfl
  | 7, _ => rfl
theorem eFT_own : ∀ a, a < 8 → ∀ k, k < eN a → (eFT a k).1 = eCN a := by
  have h : ∀ a, a < 8 → (List.range (eN a)).all (fun k => decide ((eFT a k).1 = eCN a)) = true := by decide +kernel
  intro a ha k hk
  exact of_decide_eq_true (List.all_eq_true.mp (h a ha) k (List.mem_range.mpr hk))
def eDv (a : Nat) : List Value := (List.range (eN a)).map fun k => defaultValue (eTy a k)
theorem eDv_ok : ∀ a, a < 8 → ∀ j, j < eN a → defaultValue (eTy a j) = vp_V (eDv a) j := by
  intro a _ j hj
  unfold vp_V eDv
  simp [List.getD, hj]
theorem eDv_sR (E : eE) (α : List Nat) : ∀ a, a < 8 → sR E α (eDefs a) (eDv a) := by
  intro a ha
  match a, ha with
  | 0, _ => repeat' constructor
  | 1, _ => repeat' constructor
  | 2, _ => repeat' constructor
  | 3, _ => repeat' constructor
  | 4, _ => repeat' constructor
  | 5, _ => repeat' constructor
  | 6, _ => repeat' constructor
  | 7, _ => repeat' constructor
theorem eDefs_len : ∀ a, a < 8 → eLen (eDefs a) = eN a := by decide +kernel
theorem i8_small {x : Int32} (h1 : -128 ≤ x.toInt) (h2 : x.toInt ≤ 127) : x.toInt8.toInt32 = x := by
  apply Int32.toInt_inj.mp
  rw [Int8.toInt_toInt32, Int32.toInt_toInt8]
  unfold Int.bmod
  simp only [Nat.reducePow, Int.cast_ofNat_Int]
  split <;> omega
theorem eAnd1 (x : Int32) : x &&& 1 = 0 ∨ x &&& 1 = 1 := by
  have h : (x &&& 1).toBitVec.toNat = x.toBitVec.toNat % 2 := by
    rw [Int32.toBitVec_and, BitVec.toNat_and]
    show x.toBitVec.toNat &&& 1 = _
    exact Nat.and_one_is_mod _
  rcases Nat.mod_two_eq_zero_or_one x.toBitVec.toNat with h0 | h0
  · refine Or.inl (Int32.toBitVec_inj.mp (BitVec.eq_of_toNat_eq ?_))
    rw [h, h0]
    rfl
  · refine Or.inr (Int32.toBitVec_inj.mp (BitVec.eq_of_toNat_eq ?_))
    rw [h, h0]
    rfl
theorem eNz_of (v : Int) : Int32.ofInt (bAnd v 1) = Int32.ofInt v &&& 1 := by
  unfold bAnd
  rw [of_toInt, show Int32.ofInt 1 = (1 : Int32) from rfl]
theorem eNz_nar (v : Int) : vp_nar .boolean (Int32.ofInt v) = Int32.ofInt (bAnd v 1) := by
  rw [eNz_of]
  rfl
section Mem2
variable {p : Program} {l : Launch} {e : Env} {R : Room} {s : State} {m : MethodId} {args : Array Value} {below : List Frame} {meth : Method} {c : Code} {E : eE} {A : Nat → Prop} {X : List Nat × (Nat × Nat)} {r : (Option eV ⊕ Nat) × eW} {M pc len i a b : Nat} {ls : eL} {st : List eV} {w : eW} {J : eFn}
theorem o_bastore1 {v i9 : Int} {k9 : Nat} {st : List eV} (hF : eFr p l R s m args meth c E A M) (hJ : ∀ (pc : Nat) (ls : eL) (st : List eV) (w : eW), J M pc ls st w = some r → eOk p l e R s m args below meth c E A X r M pc ls st w) (hd : decode (eByt M) pc = .ok (.bastore, 1)) (hv : wr v = 0 ∨ wr v = 1) (q : eASt J M pc ls i9 v k9 st w eOkB = some r) : eOk p l e R s m args below meth c E A X r M pc ls (.inl v :: .inl i9 :: .inr (.inl (some k9)) :: st) w := by
  unfold eASt at q; split at q
  · rename_i t n f hc
    simp only [Bool.cond_eq_ite] at q; split at q
    · rename_i ht
      split at q
      · rename_i hi
        refine o_stepW (hJ _ _ _ _ q) (fun β ws H locs lsm stv kc ks Q hs hw hP hD hS k => ?_)
        obtain ⟨_, _, rfl, rfl, hs1⟩ := sR_inv hs
        obtain ⟨_, _, rfl, rfl, hs2⟩ := sR_inv hs1
        obtain ⟨x, _, rfl, hx, hs3⟩ := sR_inv hs2
        unfold eOkB at ht
        simp only [Bool.or_eq_true, Nat.beq_eq] at ht
        rcases wR_get hw hc with ⟨rfl, h9⟩ | ⟨k1, a1, e1, rfl, ha, he, hr⟩
        · cases h9
          omega
        · obtain ⟨a2, ha2, rfl⟩ := vR_ref hx
          cases ha.symm.trans ha2
          obtain ⟨cA, ty, h1, rfl, hz⟩ := cR_arr hr (by omega)
          have hv9 := eNar1 hv
          rcases ht with rfl | rfl
          · cases (eTs_1 E).symm.trans h1
            refine va_zast hF.1 hF.2.2.1 hF.2.2.2.2.2.2.2.2.2.2.1 hP hD hS k1 1 he (eTs_1 E) (wr_in hi) hd (fun H1 locs1 hP1 hD1 hS1 => ?_)
            rw [wr_cl _ hi.1, show vp_nar .boolean (Int32.ofInt v) = Int32.ofInt v by rcases hv9 with h | h <;> rw [h] <;> rfl, upd_eUp] at hP1 hD1
            refine k _ H1 locs1 _ hs3 (wR_set hw ha (Or.inr ⟨_, _, by omega, eTs_1 E, rfl, fun _ i => ?_⟩)) hP1 hD1 hS1
            unfold eUp
            split
            · rcases hv9 with h | h <;> rw [h] <;> rfl
            · exact hz rfl i
          · cases (eTs_2 E).symm.trans h1
            refine va_bast hF.1 hF.2.2.1 hF.2.2.2.2.2.2.2.2.2.2.1 hP hD hS k1 2 he (eTs_2 E) (wr_in hi) hd (fun H1 locs1 hP1 hD1 hS1 => ?_)
            rw [wr_cl _ hi.1, show vp_nar .byte (Int32.ofInt v) = Int32.ofInt v by rcases hv9 with h | h <;> rw [h] <;> rfl, upd_eUp] at hP1 hD1
            exact k _ H1 locs1 _ hs3 (wR_set hw ha (Or.inr ⟨_, _, by omega, eTs_2 E, rfl, fun h => by omega⟩)) hP1 hD1 hS1
      · cases q
    · cases q
  · cases q
theorem o_bastore2 {v i9 : Int} {k9 : Nat} {st : List eV} (hF : eFr p l R s m args meth c E A M) (hJ : ∀ (pc : Nat) (ls : eL) (st : List eV) (w : eW), J M pc ls st w = some r → eOk p l e R s m args below meth c E A X r M pc ls st w) (hd : decode (eByt M) pc = .ok (.bastore, 1)) (hv : -128 ≤ wr v ∧ wr v ≤ 127) (q : eASt J M pc ls i9 v k9 st w eOk2 = some r) : eOk p l e R s m args below meth c E A X r M pc ls (.inl v :: .inl i9 :: .inr (.inl (some k9)) :: st) w := by
  unfold eASt at q; split at q
  · rename_i t n f hc
    simp only [Bool.cond_eq_ite] at q; split at q
    · rename_i ht
      split at q
      · rename_i hi
        refine o_stepW (hJ _ _ _ _ q) (fun β ws H locs lsm stv kc ks Q hs hw hP hD hS k => ?_)
        obtain ⟨_, _, rfl, rfl, hs1⟩ := sR_inv hs
        obtain ⟨_, _, rfl, rfl, hs2⟩ := sR_inv hs1
        obtain ⟨x, _, rfl, hx, hs3⟩ := sR_inv hs2
        have ht3 : t = 2 := Nat.eq_of_beq_eq_true ht
        subst ht3
        rcases wR_get hw hc with ⟨rfl, h9⟩ | ⟨k1, a1, e1, rfl, ha, he, hr⟩
        · cases h9
        · obtain ⟨a2, ha2, rfl⟩ := vR_ref hx
          cases ha.symm.trans ha2
          obtain ⟨cA, ty, h1, rfl, hz⟩ := cR_arr hr (by omega)
          cases (eTs_2 E).symm.trans h1
          refine va_bast hF.1 hF.2.2.1 hF.2.2.2.2.2.2.2.2.2.2.1 hP hD hS k1 2 he (eTs_2 E) (wr_in hi) hd (fun H1 locs1 hP1 hD1 hS1 => ?_)
          rw [wr_cl _ hi.1, vp_nar_byte, i8_small (by rw [wr_of]; exact hv.1) (by rw [wr_of]; exact hv.2), upd_eUp] at hP1 hD1
          exact k _ H1 locs1 _ hs3 (wR_set hw ha (Or.inr ⟨_, _, by omega, eTs_2 E, rfl, fun h => by omega⟩)) hP1 hD1 hS1
      · cases q
    · cases q
  · cases q
theorem o_bastore3 {v i9 : Int} {k9 : Nat} {st : List eV} (hF : eFr p l R s m args meth c E A M) (hJ : ∀ (pc : Nat) (ls : eL) (st : List eV) (w : eW), J M pc ls st w = some r → eOk p l e R s m args below meth c E A X r M pc ls st w) (hd : decode (eByt M) pc = .ok (.bastore, 1)) (q : eASt J M pc ls i9 (bAnd v 1) k9 st w eOk1 = some r) : eOk p l e R s m args below meth c E A X r M pc ls (.inl v :: .inl i9 :: .inr (.inl (some k9)) :: st) w := by
  unfold eASt at q; split at q
  · rename_i t n f hc
    simp only [Bool.cond_eq_ite] at q; split at q
    · rename_i ht
      split at q
      · rename_i hi
        refine o_stepW (hJ _ _ _ _ q) (fun β ws H locs lsm stv kc ks Q hs hw hP hD hS k => ?_)
        obtain ⟨_, _, rfl, rfl, hs1⟩ := sR_inv hs
        obtain ⟨_, _, rfl, rfl, hs2⟩ := sR_inv hs1
        obtain ⟨x, _, rfl, hx, hs3⟩ := sR_inv hs2
        have ht3 : t = 1 := Nat.eq_of_beq_eq_true ht
        subst ht3
        rcases wR_get hw hc with ⟨rfl, h9⟩ | ⟨k1, a1, e1, rfl, ha, he, hr⟩
        · cases h9
        · obtain ⟨a2, ha2, rfl⟩ := vR_ref hx
          cases ha.symm.trans ha2
          obtain ⟨cA, ty, h1, rfl, hz⟩ := cR_arr hr (by omega)
          cases (eTs_1 E).symm.trans h1
          refine va_zast hF.1 hF.2.2.1 hF.2.2.2.2.2.2.2.2.2.2.1 hP hD hS k1 1 he (eTs_1 E) (wr_in hi) hd (fun H1 locs1 hP1 hD1 hS1 => ?_)
          rw [wr_cl _ hi.1, eNz_nar, upd_eUp] at hP1 hD1
          refine k _ H1 locs1 _ hs3 (wR_set hw ha (Or.inr ⟨_, _, by omega, eTs_1 E, rfl, fun _ i => ?_⟩)) hP1 hD1 hS1
          unfold eUp
          split
          · rw [eNz_of]
            rcases eAnd1 (Int32.ofInt v) with h | h <;> rw [h] <;> rfl
          · exact hz rfl i
      · cases q
    · cases q
  · cases q
theorem o_getfield (hF : eFr p l R s m args meth c E A M) (hJ : ∀ (pc : Nat) (ls : eL) (st : List eV) (w : eW), J M pc ls st w = some r → eOk p l e R s m args below meth c E A X r M pc ls st w) (hd : decode (eByt M) pc = .ok (.getfield i, 3)) (hk : eIn5 eFS (eOw M) i a b = true) (ha8 : a < 8) (hbN : b < eN a) (q : eGet J M pc a b ls st w = some r) : eOk p l e R s m args below meth c E A X r M pc ls st w := by
  unfold eGet at q; split at q
  · rename_i k9 st
    split at q
    · rename_i c9 fs hc
      simp only [Bool.cond_eq_ite] at q; split at q
      · rename_i ht
        split at q
        · rename_i v hv
          refine o_stepW (hJ _ _ _ _ q) (fun β ws H locs lsm stv kc ks Q hs hw hP hD hS k => ?_)
          obtain ⟨x, _, rfl, hx, hs1⟩ := sR_inv hs
          obtain rfl := Nat.eq_of_beq_eq_true ht
          rcases wR_get hw hc with ⟨rfl, h9⟩ | ⟨k1, a1, e1, rfl, ha, he, hr⟩
          · cases h9
          · obtain ⟨a2, ha2, rfl⟩ := vR_ref hx
            cases ha.symm.trans ha2
            obtain ⟨vs, rfl, hvs, -, -⟩ := hr
            obtain ⟨y, hy, hry⟩ := sR_nth hvs hv
            exact va_get hF.1 hF.2.2.1 hF.2.2.2.2.2.2.2.1 (eLay_in _ ha8) hF.2.2.2.2.2.1 hF.2.2.2.2.2.2.2.2.2.2.1 hP k1 he (eCl_at _ ha8) b hbN (hF.2.2.2.2.2.2.2.1 _ (eFS_in hk)) (fun z hz => by rw [eFT_own _ ha8 _ hbN] at hz; exact hz) hy hd (k ws H locs _ ⟨hry, hs1⟩ hw hP hD hS)
        · cases q
      · cases q
    · cases q
  · cases q
theorem eKind_ok {E : eE} {α : List Nat} {v : eV} {x : Value} {a b : Nat} (h : eKind (eFk a b) v = true) (hv : vR E α v x) (ht : (bif eFk a b then eRefTy (eTy a b) else decide (eTy a b = .int)) = true) : narrow (eTy a b) x = x ∧ fits (eTy a b) x = true := by
  generalize eTy a b = t at ht
  generalize eFk a b = z at ht h
  cases z with
  | false =>
    obtain rfl : t = .int := of_decide_eq_true ht
    match v, h, hv with
    | .inl z, _, hv => cases hv; exact ⟨rfl, rfl⟩
    | .inr (.inl _), h, _ => cases h
    | .inr (.inr _), h, _ => cases h
  | true =>
    have hx : x = .null ∨ ∃ q, x = .ref q := by
      match v, h, hv with
      | .inl z, h, _ => cases h
      | .inr (.inl o), _, hv => exact eKn1 (v := .inr (.inl o)) rfl hv
      | .inr (.inr _), h, _ => cases h
    have ht : eRefTy t = true := ht
    cases t <;> first | (cases ht; done) | (rcases hx with rfl | ⟨q, rfl⟩ <;> exact ⟨rfl, rfl⟩)
theorem o_putfield (hF : eFr p l R s m args meth c E A M) (hJ : ∀ (pc : Nat) (ls : eL) (st : List eV) (w : eW), J M pc ls st w = some r → eOk p l e R s m args below meth c E A X r M pc ls st w) (hd : decode (eByt M) pc = .ok (.putfield i, 3)) (hk : eIn5 eFS (eOw M) i a b = true) (ha8 : a < 8) (hbN : b < eN a) (hfi : (bif (eFT a b).2.2.2 then Nat.beq (eKd M) 2 && Nat.beq (eOw M) a else true) = true) (hty : (bif eFk a b then eRefTy (eTy a b) else decide (eTy a b = .int)) = true) (q : ePutf J M pc a b (eFk a b) ls st w = some r) : eOk p l e R s m args below meth c E A X r M pc ls st w := by
  unfold ePutf at q; split at q
  · rename_i v k9 st
    split at q
    · rename_i c9 fs hc
      simp only [Bool.cond_eq_ite, Bool.and_eq_true] at q; split at q
      · rename_i ht
        refine o_stepW (hJ _ _ _ _ q) (fun β ws H locs lsm stv kc ks Q hs hw hP hD hS k => ?_)
        obtain ⟨x, _, rfl, hx, hs1⟩ := sR_inv hs
        obtain ⟨y, _, rfl, hy, hs2⟩ := sR_inv hs1
        obtain ⟨ht1, ht2, ht3⟩ := ht
        obtain rfl := Nat.eq_of_beq_eq_true ht1
        rcases wR_get hw hc with ⟨rfl, h9⟩ | ⟨k1, a1, e1, rfl, ha, he, hr⟩
        · cases h9
        · obtain ⟨a2, ha2, rfl⟩ := vR_ref hy
          cases ha.symm.trans ha2
          obtain ⟨vs, rfl, hvs, hc8, hlen⟩ := hr
          obtain ⟨hn, hf⟩ := eKind_ok ht3 hx hty
          have hsame : ∀ z, s.fieldFound? (eFT c9 b).1 (eFT c9 b).2.1 (eFT c9 b).2.2.1 = some z → s.fieldFound? (eCN c9) (eFT c9 b).2.1 (eFT c9 b).2.2.1 = some z := fun z hz => by rw [eFT_own _ ha8 _ hbN] at hz; exact hz
          have hl : b < vs.length := by rw [sR_len hvs, hlen]; exact hbN
          have go : ∀ (H1 : Heap) (locs1 : List Loc), va_P E.1 vwCl (ws.set k1 (a1, .inr (c9, vs.set b x))) H1 → va_D A (ws.set k1 (a1, .inr (c9, vs.set b x))) → va_S A s.heap H1 locs1 → W p l e R s m args below meth c H1 locs1 kc ks Q (F0 m (pc + 3) lsm _) := fun H1 locs1 hP1 hD1 hS1 =>
            k _ H1 locs1 _ hs2 (wR_set hw ha ⟨_, rfl, sR_set hvs hx, hc8, by rw [eSet_eq, eLen_eq, List.length_set, ← eLen_eq]; exact hlen⟩) hP1 hD1 hS1
          cases hfin : (eFT c9 b).2.2.2 with
          | false => exact va_put hF.1 hF.2.2.1 hF.2.2.2.2.2.2.2.1 (eLay_in _ ha8) (eTy c9) (eTy_ok _ ha8) (eNm_ok _ ha8) hF.2.2.2.2.2.1 hF.2.2.2.2.2.2.2.2.2.2.1 hP hD hS k1 he (eCl_at _ ha8) b hbN (hF.2.2.2.2.2.2.2.1 _ (eFS_in hk)) hsame hfin (eTy_ok _ ha8 _ hbN) hn hf hl hd go
          | true =>
            rw [hfin] at hfi
            have hfi : (Nat.beq (eKd M) 2 && Nat.beq (eOw M) c9) = true := hfi
            simp only [Bool.and_eq_true, Nat.beq_eq] at hfi
            exact va_putF hF.1 hF.2.2.1 hF.2.2.2.2.2.2.2.1 (eLay_in _ ha8) (eTy c9) (eTy_ok _ ha8) (eNm_ok _ ha8) hF.2.2.2.2.2.1 hF.2.2.2.2.2.2.2.2.2.2.1 hP hD hS k1 he (eCl_at _ ha8) b hbN (hF.2.2.2.2.2.2.2.1 _ (eFS_in hk)) hsame hfin (hF.2.2.2.2.2.2.2.2.1 hfi.1) (by rw [eFT_own _ ha8 _ hbN, hfi.2]) (eTy_ok _ ha8 _ hbN) hn hf hl hd go
      · cases q
    · cases q
  · cases q
end Mem2
