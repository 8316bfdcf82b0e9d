/-! Ends; throws; the JDK's own that are one step here: Object's init, min, max, arraycopy. -/
theorem vR_some {E : eE} {α : List Nat} {k : Nat} {x : Value} (h : vR E α (.inr (.inl (some k))) x) : ∃ q, x = .ref q := by
  cases k with
  | zero => exact ⟨_, h⟩
  | succ k => obtain ⟨a, _, h⟩ := h; exact ⟨a, h⟩
theorem sR_nil {E : eE} {α : List Nat} {xs : List Value} (h : sR E α [] xs) : xs = [] := by
  cases xs with
  | nil => rfl
  | cons => exact h.elim
theorem of_nat (n : Nat) : Int32.ofNat n = Int32.ofInt (n : Int) := (Int32.ofInt_eq_ofNat (n := n)).symm
theorem eW_objI : Cond.instanceMethod Lib.objectInit ∈ eAll := eAll_of (i := 121) (by decide +kernel) rfl
theorem eW_objC : Cond.code Lib.objectInit ⟨#[0xb1]⟩ 1 none ∈ eAll := eAll_of (i := 122) (by decide +kernel) rfl
theorem eW_maxS : Cond.static Lib.Math.max.name ∈ eAll := eAll_of (i := 707) (by decide +kernel) rfl
theorem eW_maxC : Cond.code Lib.Math.max.name Lib.Math.max.code 2 (some .int) ∈ eAll := eAll_of (i := 708) (by decide +kernel) rfl
theorem eW_minS : Cond.static Lib.Math.min.name ∈ eAll := eAll_of (i := 475) (by decide +kernel) rfl
theorem eW_minC : Cond.code Lib.Math.min.name Lib.Math.min.code 2 (some .int) ∈ eAll := eAll_of (i := 476) (by decide +kernel) rfl
theorem eW_mathI : Cond.initialized "java/lang/Math" ∈ eAll := List.mem_filter.mpr ⟨by decide +kernel, rfl⟩
theorem eW_copyS : Cond.static arraycopyName ∈ eAll := eAll_of (i := 676) (by decide +kernel) rfl
theorem eW_copyN : Cond.native arraycopyName ∈ eAll := eAll_of (i := 677) (by decide +kernel) rfl
theorem eW_sysI : Cond.initialized "java/lang/System" ∈ eAll := List.mem_filter.mpr ⟨by decide +kernel, rfl⟩
theorem eCpy_eq (f g : Nat → Int) (sp dp n : Nat) : va_cpy (fun i => Int32.ofInt (f i)) (fun i => Int32.ofInt (g i)) sp dp n = fun i => Int32.ofInt (eCpy f g sp dp n i) := by
  funext k
  unfold va_cpy eCpy
  split <;> rfl
def eSupN : List String := ["java/lang/RuntimeException", "java/lang/Exception"]
theorem eThr_ok : eMS.all (fun q => bif Nat.ble 2100 q.2.2.1 then (vx_at0 (eCN q.1) q.2.1 (eExN (q.2.2.1 - 2100)) eSupN).all (fun w => decide (w ∈ lw_tbl) && ((goodWord w || eMov w) && vx_ot w)) else true) = true := by decide +kernel
theorem eExI_ok : ∀ k, k < 4 → Cond.initialized (eExN k) ∈ eAll := by
  have h : ∀ k, k < 4 → decide (Cond.initialized (eExN k) ∈ lw_tbl) = true := by decide +kernel
  exact fun k hk => List.mem_filter.mpr ⟨of_decide_eq_true (h k hk), rfl⟩
theorem eHh_6 : ∀ M, M < 345 → eOw M = 6 → eHh M = [] := by decide +kernel
theorem eMov_on {w : Cond} (h : eMov w = true) : w.onTables = true := by
  cases w <;> first | rfl | (cases h; done)
theorem eRt_at {M : Nat} (hM : M < 345) : (match eRet M with
  | 0 => decide (eRt M = none) | 1 => decide (eRt M = some .int) | 2 => decide (eRt M = some .boolean)
  | 3 => (match eRt M with | some t => eRefTy t | none => false) | 4 => decide (eRt M = some .float) | 5 => decide (eRt M = some .double) | _ => false) = true := List.all_eq_true.mp eRt_ok M (List.mem_range.mpr hM)
section Ends
variable {p : Program} {l : Launch} {e : Env} {R : Room} {s : State} {m : MethodId} {args : Array Value} {below : List Frame} {meth : Method} {c : Code} {E : eE} {A : Nat → Prop} {X : List Nat × (Nat × Nat)} {r : (Option eV ⊕ Nat) × eW} {M pc len i a b : Nat} {ls : eL} {st : List eV} {w : eW} {J : eFn}
theorem o_arraylength (hF : eFr p l R s m args meth c E A M) (hJ : ∀ (pc : Nat) (ls : eL) (st : List eV) (w : eW), J M pc ls st w = some r → eOk p l e R s m args below meth c E A X r M pc ls st w) (hd : decode (eByt M) pc = .ok (.arraylength, 1)) (q : (match st with
    | .inr (.inl (some r)) :: st => (match eNth w.1 r with
      | some (.inl (t, (n, _))) => bif Nat.beq t 9 then J M (pc + 1) ls (.inl (n : Int) :: st) w else none
      | _ => none)
    | _ => none) = some r) : eOk p l e R s m args below meth c E A X r M pc ls st w := by
  split at q
  · rename_i k9 st
    split at q
    · rename_i t n f hc
      simp only [Bool.cond_eq_ite] at q; split at q
      · rename_i ht
        refine o_stepW (hJ _ _ _ _ q) (fun β ws H locs lsm stv kc ks Q hs hw hP hD hS k => ?_)
        obtain ⟨x, _, rfl, hx, hs1⟩ := sR_inv hs
        obtain rfl := Nat.eq_of_beq_eq_true ht
        rcases wR_get hw hc with ⟨rfl, h9⟩ | ⟨k1, a1, e1, rfl, ha, he, hr⟩
        · obtain rfl : x = .ref E.2.2.1.1 := hx
          have hn : n = E.2.2.1.2.1 := congrArg (fun z : eC => match z with | .inl (_, (n, _)) => n | _ => 0) h9
          subst hn
          obtain ⟨-, -, -, -, hX, ⟨hX1, hX2, -⟩, -, -⟩ := hF.2.2.2.2.2.2.2.2.2.2.2.1
          refine va_slen hF.1 hF.2.2.1 hX hX2 hX1 hS hd ?_
          exact k ws H locs _ ⟨congrArg Value.int (of_nat _), hs1⟩ hw hP hD hS
        · rcases hr with ⟨h, -⟩ | ⟨_, _, h, -⟩ <;> omega
      · cases q
    · cases q
  · cases q
theorem o_objInit (hF : eFr p l R s m args meth c E A M) (hJ : ∀ (pc : Nat) (ls : eL) (st : List eV) (w : eW), J M pc ls st w = some r → eOk p l e R s m args below meth c E A X r M pc ls st w) (hd : decode (eByt M) pc = .ok (.invokespecial i, 3)) (hk : eIn5 eMS (eOw M) i 2005 0 = true) (q : eInit J M pc ls st w = some r) : eOk p l e R s m args below meth c E A X r M pc ls st w := by
  unfold eInit at q; split at q
  · rename_i k9 st
    simp only [Bool.cond_eq_ite, Bool.and_eq_true] at q; split at q
    · rename_i ht
      refine o_step (hJ _ _ _ _ q) (fun β H locs lsm stv kc ks Q hl hs k => ?_)
      obtain ⟨x, _, rfl, hx, hs1⟩ := sR_inv hs
      obtain ⟨q9, rfl⟩ := vR_some hx
      have h1 := Nat.le_of_ble_eq_true ht.1
      have h8 := Nat.le_of_ble_eq_true ht.2
      have hfr := hF.2.2.2.2.2.2.2.2.2.2.2.2.2.1
      have hlo := hF.2.2.2.2.2.2.2.2.2.2.2.2.2.2
      refine W.objInit hF.1 hF.2.2.1 hF.2.2.2.2.2.1 (hF.2.2.2.2.2.2.2.1 _ (eMS_in hk)) (hF.2.2.2.2.2.2.2.1 _ eW_objI) (hF.2.2.2.2.2.2.2.1 _ eW_objC) (g := F0 m pc lsm _) rfl (hl.1.trans hF.2.2.2.1.symm) rfl hd (by omega) ?_ (k _ _ hl hs1)
      rw [sR_cats hs1]
      show 2 * 0 + _ + 12 ≤ _
      omega
    · cases q
  · cases q
theorem o_max {x y : Int} {st : List eV} (hF : eFr p l R s m args meth c E A M) (hJ : ∀ (pc : Nat) (ls : eL) (st : List eV) (w : eW), J M pc ls st w = some r → eOk p l e R s m args below meth c E A X r M pc ls st w) (hR : r.2.2.1 ≤ R.cells + X.2.1 ∧ r.2.2.2 ≤ R.slots + X.2.2) (hd : decode (eByt M) pc = .ok (.invokestatic i, 3)) (hk9 : eIn5 eMS (eOw M) i 2002 0 = true) (ht : Nat.ble 1 (eDep M) = true ∧ Nat.ble (eCats st) 8 = true) (q : J M (pc + 3) ls (.inl (if wr x < wr y then y else x) :: st) w = some r) : eOk p l e R s m args below meth c E A X r M pc ls (.inl y :: .inl x :: st) w := by
  obtain ⟨hle, hk⟩ := hJ _ _ _ _ q
  refine ⟨hle, fun β ws H locs lsm stv kc ks hl hs hw hP hD hS h1 h2 => ?_⟩
  obtain ⟨_, _, rfl, rfl, hs1⟩ := sR_inv hs
  obtain ⟨_, _, rfl, rfl, hs2⟩ := sR_inv hs1
  have h3 := Nat.le_of_ble_eq_true ht.1
  have h8 := Nat.le_of_ble_eq_true ht.2
  have hfr := hF.2.2.2.2.2.2.2.2.2.2.2.2.2.1
  have hlo := hF.2.2.2.2.2.2.2.2.2.2.2.2.2.2
  refine va_mmax hF.1 hF.2.2.1 (hF.2.2.2.1.trans hl.1.symm) hF.2.2.2.2.2.1 (hF.2.2.2.2.2.2.2.1 _ (eMS_in hk9)) (hF.2.2.2.2.2.2.2.1 _ eW_maxS) (hF.2.2.2.2.2.2.2.1 _ eW_mathI) (hF.2.2.2.2.2.2.2.1 _ eW_maxC) (by omega) (by rw [sR_cats hs2]; omega) (by omega) (by omega) hd (hk β ws H locs lsm _ kc ks hl ⟨?_, hs2⟩ hw hP hD hS h1 h2)
  show Value.int _ = Value.int _
  simp only [wr_lt_iff]
  split <;> rfl
theorem o_min {x y : Int} {st : List eV} (hF : eFr p l R s m args meth c E A M) (hJ : ∀ (pc : Nat) (ls : eL) (st : List eV) (w : eW), J M pc ls st w = some r → eOk p l e R s m args below meth c E A X r M pc ls st w) (hR : r.2.2.1 ≤ R.cells + X.2.1 ∧ r.2.2.2 ≤ R.slots + X.2.2) (hd : decode (eByt M) pc = .ok (.invokestatic i, 3)) (hk9 : eIn5 eMS (eOw M) i 2003 0 = true) (ht : Nat.ble 1 (eDep M) = true ∧ Nat.ble (eCats st) 8 = true) (q : J M (pc + 3) ls (.inl (if wr x < wr y then x else y) :: st) w = some r) : eOk p l e R s m args below meth c E A X r M pc ls (.inl y :: .inl x :: st) w := by
  obtain ⟨hle, hk⟩ := hJ _ _ _ _ q
  refine ⟨hle, fun β ws H locs lsm stv kc ks hl hs hw hP hD hS h1 h2 => ?_⟩
  obtain ⟨_, _, rfl, rfl, hs1⟩ := sR_inv hs
  obtain ⟨_, _, rfl, rfl, hs2⟩ := sR_inv hs1
  have h3 := Nat.le_of_ble_eq_true ht.1
  have h8 := Nat.le_of_ble_eq_true ht.2
  have hfr := hF.2.2.2.2.2.2.2.2.2.2.2.2.2.1
  have hlo := hF.2.2.2.2.2.2.2.2.2.2.2.2.2.2
  refine va_mmin hF.1 hF.2.2.1 (hF.2.2.2.1.trans hl.1.symm) hF.2.2.2.2.2.1 (hF.2.2.2.2.2.2.2.1 _ (eMS_in hk9)) (hF.2.2.2.2.2.2.2.1 _ eW_minS) (hF.2.2.2.2.2.2.2.1 _ eW_mathI) (hF.2.2.2.2.2.2.2.1 _ eW_minC) (by omega) (by rw [sR_cats hs2]; omega) (by omega) (by omega) hd (hk β ws H locs lsm _ kc ks hl ⟨?_, hs2⟩ hw hP hD hS h1 h2)
  show Value.int _ = Value.int _
  congr 1
  by_cases h : wr y < wr x
  · rw [if_pos ((wr_lt_iff y x).mpr h), if_neg (by omega)]
  · rw [if_neg (fun z => h ((wr_lt_iff y x).mp z))]
    by_cases h' : wr x < wr y
    · rw [if_pos h']
    · rw [if_neg h']
      exact (wr_eq_iff x y).mpr (by omega)
theorem o_stepWL {pc2 : Nat} {st2 : List eV} {w2 : List eC} (h : eOk p l e R s m args below meth c E A X r M pc2 ls st2 (w2, w.2))
    (k : ∀ (β : List Nat) (ws : va_W) (H : Heap) (locs : List Loc) (lsm : Array Slot) (stv : List Value) (kc ks : Nat) (Q : State → Prop), lsm.size = eMaxL M → sR E (X.1 ++ β) st stv → wR E (X.1 ++ β) w.1 ws → va_P E.1 vwCl ws H → va_D A ws → va_S A s.heap H locs →
      (∀ (ws2 : va_W) (H2 : Heap) (locs2 : List Loc) (stv2 : List Value), sR E (X.1 ++ β) st2 stv2 → wR E (X.1 ++ β) w2 ws2 → va_P E.1 vwCl ws2 H2 → va_D A ws2 → va_S A s.heap H2 locs2 → W p l e R s m args below meth c H2 locs2 kc ks Q (F0 m pc2 lsm stv2)) → W p l e R s m args below meth c H locs kc ks Q (F0 m pc lsm stv)) : eOk p l e R s m args below meth c E A X r M pc ls st w := by
  obtain ⟨hle, hk⟩ := h
  exact ⟨hle, fun β ws H locs lsm stv kc ks hl hs hw hP hD hS h1 h2 => k β ws H locs lsm stv kc ks _ hl.1 hs hw hP hD hS (fun ws2 H2 locs2 stv2 hs2 hw2 hP2 hD2 hS2 => hk β ws2 H2 locs2 lsm stv2 kc ks hl hs2 hw2 hP2 hD2 hS2 h1 h2)⟩
theorem o_copy (hF : eFr p l R s m args meth c E A M) (hJ : ∀ (pc : Nat) (ls : eL) (st : List eV) (w : eW), J M pc ls st w = some r → eOk p l e R s m args below meth c E A X r M pc ls st w) (hd : decode (eByt M) pc = .ok (.invokestatic i, 3)) (hk9 : eIn5 eMS (eOw M) i 2004 0 = true) (h3 : Nat.ble 1 (eDep M) = true) (q : eCopy J M pc ls st w = some r) : eOk p l e R s m args below meth c E A X r M pc ls st w := by
  unfold eCopy at q; split at q
  · rename_i n dp r1 sp r0 st
    split at q
    · rename_i t0 n0 f hc0
      split at q
      · rename_i t1 n1 g hc1
        simp only [Bool.cond_eq_ite, Bool.and_eq_true, Bool.or_eq_true, Nat.beq_eq] at q; split at q
        · rename_i ht
          split at q
          · rename_i hi
            obtain ⟨⟨rfl, ht2⟩, ht3⟩ := ht
            obtain ⟨hi1, hi2, hi3, hi4, hi5⟩ := hi
            refine o_stepWL (hJ _ _ _ _ q) (fun β ws H locs lsm stv kc ks Q hlz hs hw hP hD hS k => ?_)
            obtain ⟨_, _, rfl, rfl, hs1⟩ := sR_inv hs
            obtain ⟨_, _, rfl, rfl, hs2⟩ := sR_inv hs1
            obtain ⟨x1, _, rfl, hx1, hs3⟩ := sR_inv hs2
            obtain ⟨_, _, rfl, rfl, hs4⟩ := sR_inv hs3
            obtain ⟨x0, _, rfl, hx0, hs5⟩ := sR_inv hs4
            rcases wR_get hw hc0 with ⟨rfl, h9⟩ | ⟨k0, a0, e0, rfl, ha0, he0, hr0⟩
            · cases h9
              omega
            rcases wR_get hw hc1 with ⟨rfl, h9⟩ | ⟨k1, a1, e1, rfl, ha1, he1, hr1⟩
            · cases h9
              omega
            obtain ⟨b0, hb0, rfl⟩ := vR_ref hx0
            cases ha0.symm.trans hb0
            obtain ⟨b1, hb1, rfl⟩ := vR_ref hx1
            cases ha1.symm.trans hb1
            obtain ⟨cA0, ty0, hy0, rfl, hz0⟩ := cR_arr hr0 (by omega)
            obtain ⟨cA1, ty1, hy1, rfl, hz1⟩ := cR_arr hr1 (by omega)
            cases hy0.symm.trans hy1
            have h1 := Nat.le_of_ble_eq_true h3
            have h8 := Nat.le_of_ble_eq_true ht3
            have hfr := hF.2.2.2.2.2.2.2.2.2.2.2.2.2.1
            have hlo := hF.2.2.2.2.2.2.2.2.2.2.2.2.2.2
            have hnw : nativeFrameWords "java/lang/System" "arraycopy" 5 + 11 ≤ 31 := by decide +kernel
            have hprim : refKind ty0 = false := by
              rcases ht2 with rfl | rfl
              · cases (eTs_0 E).symm.trans hy0
                rfl
              · cases (eTs_1 E).symm.trans hy0
                rfl
            have hfit : ∀ (z : Nat), fits ty0 (.int (Int32.ofInt (f z))) = true := by
              intro z
              rcases ht2 with rfl | rfl
              · cases (eTs_0 E).symm.trans hy0
                rfl
              · cases (eTs_1 E).symm.trans hy0
                exact hz0 rfl z
            refine va_copyi hF.1 hF.2.2.1 (hF.2.2.2.1.trans hlz.symm) hF.2.2.2.2.2.1 (hF.2.2.2.2.2.2.2.1 _ (eMS_in hk9)) (hF.2.2.2.2.2.2.2.1 _ eW_copyN) (hF.2.2.2.2.2.2.2.1 _ eW_copyS) (hF.2.2.2.2.2.2.2.1 _ eW_sysI) hF.2.2.2.2.2.2.2.2.2.2.1 hP hD hS k0 k1 _ _ he0 he1 hy0 hy0 hprim (wr_clamp hi1) (wr_clamp hi2) (wr_clamp hi3) (by rw [wr_cl _ hi1, wr_cl _ hi3]; omega) (by rw [wr_cl _ hi2, wr_cl _ hi3]; omega) (fun z _ => hfit _) (by omega) (by rw [sR_cats hs5]; omega) hd (fun H1 locs1 hP1 hD1 hS1 => ?_)
            rw [wr_cl _ hi1, wr_cl _ hi2, wr_cl _ hi3, eCpy_eq] at hP1 hD1
            refine k _ H1 locs1 _ hs5 (wR_set hw ha1 (Or.inr ⟨_, _, by omega, hy0, rfl, fun h i => ?_⟩)) hP1 hD1 hS1
            unfold eCpy
            have g0 := hz0 h
            have g1 := hz1 h
            split
            · exact g0 _
            · exact g1 _
          · cases q
        · cases q
      · cases q
    · cases q
  · cases q
theorem o_ret_aux {M : Nat} {st : List eV} {w : eW} {pc : Nat} {ls : eL} {o : Option eV} (hr : r = (.inl o, w)) (hR : r.2.2.1 ≤ R.cells + X.2.1 ∧ r.2.2.2 ≤ R.slots + X.2.2)
    (row : ∀ (β : List Nat) (stv : List Value) (H : Heap) (locs : List Loc) (lsm : Array Slot) (k n : Nat), sR E (X.1 ++ β) st stv → (∀ v : Option Value, eRV E (X.1 ++ β) o v → ∀ t : State, t.heap = H → s.WarmedH t.vm → eQr E X.1 A r args s (.returned v) t) → (∀ q ∈ locs, A q.base) → W p l e R s m args below meth c H locs k n (MQ below (eQr E X.1 A r) args s k n A) (F0 m pc lsm stv)) : eOk p l e R s m args below meth c E A X r M pc ls st w := by
  subst hr
  refine ⟨⟨Nat.le_refl _, Nat.le_refl _⟩, fun β ws H locs lsm stv kc ks hl hs hw hP hD hS h1 h2 => ?_⟩
  dsimp only at hR
  refine W.widen (k := R.cells) (n := R.slots) (by omega) (by omega) (vx_ret (row β stv H locs lsm _ _ hs (fun v hv t ht hW => ⟨o, v, β, ws, rfl, rfl, hv, hw, by rw [ht]; exact hP, hD, hS.F ht⟩) hS.2.2))
theorem o_iret (hF : eFr p l R s m args meth c E A M) (hM : M < 345) (hR : r.2.2.1 ≤ R.cells + X.2.1 ∧ r.2.2.2 ≤ R.slots + X.2.2) (hd : decode (eByt M) pc = .ok (.ireturn, 1)) (q : eRetI M st w = some r) : eOk p l e R s m args below meth c E A X r M pc ls st w := by
  unfold eRetI at q; split at q
  · rename_i v
    have ht := eRt_at hM
    simp only [Bool.cond_eq_ite, Nat.beq_eq] at q; split at q
    · rename_i h1
      rw [h1] at ht
      refine o_ret_aux (Option.some.inj q).symm hR (fun β stv H locs lsm k n hs hq hf => ?_)
      obtain ⟨_, _, rfl, rfl, hs1⟩ := sR_inv hs
      obtain rfl := sR_nil hs1
      exact W.iret hF.1 hF.2.2.1 (hF.2.2.2.2.1.trans (of_decide_eq_true ht)) (hq (some (.int (Int32.ofInt v))) rfl) hf hd hF.2.2.2.2.2.2.1
    · split at q
      · rename_i h1
        rw [h1] at ht
        split at q
        · rename_i hv
          refine o_ret_aux (Option.some.inj q).symm hR (fun β stv H locs lsm k n hs hq hf => ?_)
          obtain ⟨_, _, rfl, rfl, hs1⟩ := sR_inv hs
          obtain rfl := sR_nil hs1
          exact W.zret (ty := .boolean) hF.1 hF.2.2.1 (hF.2.2.2.2.1.trans (of_decide_eq_true ht)) (by rcases eNar1 hv with h | h <;> rw [h] <;> rfl) (hq (some (.int (Int32.ofInt v))) rfl) hf hd hF.2.2.2.2.2.2.1
        · cases q
      · cases q
  · cases q
theorem o_aret (hF : eFr p l R s m args meth c E A M) (hM : M < 345) (hR : r.2.2.1 ≤ R.cells + X.2.1 ∧ r.2.2.2 ≤ R.slots + X.2.2) (hd : decode (eByt M) pc = .ok (.areturn, 1)) (q : eRetA M st w = some r) : eOk p l e R s m args below meth c E A X r M pc ls st w := by
  unfold eRetA at q; split at q
  · rename_i v
    have ht := eRt_at hM
    simp only [Bool.cond_eq_ite, Nat.beq_eq] at q; split at q
    · rename_i h1
      rw [h1] at ht
      have ht : (match eRt M with | some t => eRefTy t | none => false) = true := ht
      split at ht
      · rename_i t9 h9
        refine o_ret_aux (Option.some.inj q).symm hR (fun β stv H locs lsm k n hs hq hf => ?_)
        obtain ⟨x, _, rfl, hx, hs1⟩ := sR_inv hs
        obtain rfl := sR_nil hs1
        refine W.aret hF.1 hF.2.2.1 (hF.2.2.2.2.1.trans h9) ?_ (eKn1 (v := .inr (.inl v)) rfl hx) (hq (some x) hx) hf hd hF.2.2.2.2.2.2.1
        cases t9 <;> first | (cases ht; done) | exact Or.inl ⟨_, rfl⟩ | exact Or.inr ⟨_, rfl⟩
      · cases ht
    · cases q
  · cases q
theorem o_fret (hF : eFr p l R s m args meth c E A M) (hM : M < 345) (hR : r.2.2.1 ≤ R.cells + X.2.1 ∧ r.2.2.2 ≤ R.slots + X.2.2) (hd : decode (eByt M) pc = .ok (.freturn, 1)) (q : eRetF M st w = some r) : eOk p l e R s m args below meth c E A X r M pc ls st w := by
  unfold eRetF at q; split at q
  · rename_i v
    have ht := eRt_at hM
    simp only [Bool.cond_eq_ite, Nat.beq_eq] at q; split at q
    · rename_i h1
      rw [h1] at ht
      refine o_ret_aux (Option.some.inj q).symm hR (fun β stv H locs lsm k n hs hq hf => ?_)
      obtain ⟨x, _, rfl, rfl, hs1⟩ := sR_inv hs
      obtain rfl := sR_nil hs1
      exact W.fret hF.1 hF.2.2.1 (hF.2.2.2.2.1.trans (of_decide_eq_true ht)) (hq (some (.float v)) rfl) hf hd hF.2.2.2.2.2.2.1
    · cases q
  · cases q
theorem o_dret (hF : eFr p l R s m args meth c E A M) (hM : M < 345) (hR : r.2.2.1 ≤ R.cells + X.2.1 ∧ r.2.2.2 ≤ R.slots + X.2.2) (hd : decode (eByt M) pc = .ok (.dreturn, 1)) (q : eRetD M st w = some r) : eOk p l e R s m args below meth c E A X r M pc ls st w := by
  unfold eRetD at q; split at q
  · rename_i v
    have ht := eRt_at hM
    simp only [Bool.cond_eq_ite, Nat.beq_eq] at q; split at q
    · rename_i h1
      rw [h1] at ht
      refine o_ret_aux (Option.some.inj q).symm hR (fun β stv H locs lsm k n hs hq hf => ?_)
      obtain ⟨x, _, rfl, rfl, hs1⟩ := sR_inv hs
      obtain rfl := sR_nil hs1
      exact W.dret hF.1 hF.2.2.1 (hF.2.2.2.2.1.trans (of_decide_eq_true ht)) (hq (some (.double v)) rfl) hf hd hF.2.2.2.2.2.2.1
    · cases q
  · cases q
theorem o_vret (hF : eFr p l R s m args meth c E A M) (hM : M < 345) (hR : r.2.2.1 ≤ R.cells + X.2.1 ∧ r.2.2.2 ≤ R.slots + X.2.2) (hd : decode (eByt M) pc = .ok (.return_, 1)) (q : eRetV M st w = some r) : eOk p l e R s m args below meth c E A X r M pc ls st w := by
  unfold eRetV at q; split at q
  · have ht := eRt_at hM
    simp only [Bool.cond_eq_ite, Nat.beq_eq] at q; split at q
    · rename_i h1
      rw [h1] at ht
      refine o_ret_aux (Option.some.inj q).symm hR (fun β stv H locs lsm k n hs hq hf => ?_)
      obtain rfl := sR_nil hs
      exact W.vret hF.1 hF.2.2.1 (hF.2.2.2.2.1.trans (of_decide_eq_true ht)) (hq none trivial) hf hd hF.2.2.2.2.2.2.1
    · cases q
  · cases q
theorem o_throw {j : Nat} (hF : eFr p l R s m args meth c E A M) (hst : l.stackTraces = false) (hM : M < 345) (hR : r.2.2.1 ≤ R.cells + X.2.1 ∧ r.2.2.2 ≤ R.slots + X.2.2) (hd : decode (eByt M) pc = .ok (.new i, 3)) (hd3 : decode (eByt M) (pc + 3) = .ok (.dup, 1)) (hd4 : decode (eByt M) (pc + 4) = .ok (.invokespecial j, 3)) (hd7 : decode (eByt M) (pc + 7) = .ok (.athrow, 1))
    (hkc : eIn4 eCS (eOw M) i a = true) (hkm : eIn5 eMS (eOw M) j (a + 2000) 0 = true) (ho6 : eOw M = 6) (ha1 : 100 ≤ a) (ha2 : a < 104)
    (q : (bif Nat.ble 8 (eDep M) && Nat.ble (eCats st) 8 then some (.inr (a - 100), (w.1, (w.2.1 + 1, w.2.2 + 6))) else none) = some r) : eOk p l e R s m args below meth c E A X r M pc ls st w := by
  simp only [Bool.cond_eq_ite, Bool.and_eq_true] at q; split at q
  · rename_i ht
    obtain rfl := Option.some.inj q
    have h3 := Nat.le_of_ble_eq_true ht.1
    have h8 := Nat.le_of_ble_eq_true ht.2
    have hfr := hF.2.2.2.2.2.2.2.2.2.2.2.2.2.1
    have hlo := hF.2.2.2.2.2.2.2.2.2.2.2.2.2.2
    dsimp only at hR
    refine ⟨⟨by dsimp only; omega, by dsimp only; omega⟩, fun β ws H locs lsm stv kc ks hl hs hw hP hD hS h1 h2 => ?_⟩
    have hcl := eCS_in hkc
    rw [show Nat.blt a 100 = false from by rw [Bool.eq_false_iff, Ne, Nat.blt_eq]; omega] at hcl
    have hx := hF.2.2.2.2.2.2.2.2.2.2.2.1
    obtain ⟨p9, hp9⟩ := eIn5_spec hkm
    have hat := List.all_eq_true.mp eThr_ok _ hp9
    dsimp only at hat
    rw [Nat.ble_eq_true_of_le (show 2100 ≤ a + 2000 by omega), show a + 2000 - 2100 = a - 100 by omega] at hat
    rw [cond_true] at hat
    have hat := List.all_eq_true.mp hat
    have hfit : ∀ k, k < 4 → Bundle.fit (eExN k) = true := by decide +kernel
    refine vx_throw0 (own := eCN (eOw M)) (cls := eExN (a - 100)) (names := eSupN) (ik := i) (ic := j) (A := A) hF.1 hF.2.2.1 hst hF.2.2.2.2.2.1 (hfit _ (by omega)) (by decide +kernel) (hF.2.2.2.2.2.2.2.1 _ hcl) (hF.2.2.2.2.2.2.2.1 _ (eExI_ok _ (by omega))) (fun w9 hw9 => ?_) (fun w9 hw9 => ?_) hx.2.2.1 hx.2.2.2.1 hS (hl.1.trans hF.2.2.2.1.symm) hd hd3 hd4 hd7 (fun x hx9 => ?_) (by show 5 < _; omega) (by rw [sR_cats hs]; show _ + 81 ≤ _; omega) (by omega) (by omega) hF.2.2.2.2.2.2.1 (fun t hal hsz hkk => ?_) hS.2.2 (by omega) (by omega)
    · have := hat w9 hw9
      simp only [Bool.and_eq_true, Bool.or_eq_true, decide_eq_true_eq] at this
      obtain ⟨hin, hg, -⟩ := this
      rcases hg with hg | hg
      · exact hF.2.2.2.2.2.2.2.1 _ (List.mem_filter.mpr ⟨hin, hg⟩)
      · exact va_Nw.use (eMov_on hg) (hx.1 _ (List.mem_filter.mpr ⟨hin, hg⟩))
    · rcases List.mem_cons.mp hw9 with rfl | hw9
      · rfl
      rcases List.mem_cons.mp hw9 with rfl | hw9
      · rfl
      · have := hat w9 hw9
        simp only [Bool.and_eq_true] at this
        exact this.2.2
    · rw [hF.2.2.2.2.2.2.2.2.2.1 (fun h => by subst h; exact absurd ho6 (by decide)), eHh_6 M hM ho6] at hx9
      cases hx9
    · exact ⟨a - 100, β, ws, by omega, rfl, rfl, hw, hP.kept (fun k q hq => hkk _ (vx_lt hP hq)), hD, ⟨Nat.le_trans hS.1 hsz, fun q z1 z2 => (hkk q (Nat.lt_of_lt_of_le z1 hS.1)).trans (hS.2.1 q z1 z2)⟩⟩
  · cases q
end Ends
