/-! Calls: what a method owes; how a call goes on; what is caught. -/
def eRm (y : Nat) (w w1 : eW) : Room := { frames := eDep y, locals := 39 * eDep y, cells := w1.2.1 - w.2.1, slots := w1.2.2 - w.2.2 }
def eCon (l : Launch) (y : Nat) (as : List eV) (w : eW) (r : (Option eV ⊕ Nat) × eW) : Prop := (w.2.1 ≤ r.2.2.1 ∧ w.2.2 ≤ r.2.2.2) ∧ ∀ (E : eE) (α : List Nat) (ws : va_W) (sz : Nat), eAll1 as = true → eLen as ≤ eMaxL y → vx_Met l (eNam y) (eHd y :: eAll) (eRm y w r.2) (ePc E α ws sz w as) (eQr E α (va_A ws sz) r) (eXr E α (va_A ws sz) r) (r.2.2.1 - w.2.1) (r.2.2.2 - w.2.2) (va_A ws sz)
theorem eMet_of {l : Launch} {y : Nat} {ws : List Cond} {rm : Room} {Pc : Array Value → State → Prop} {E : eE} {α : List Nat} {A : Nat → Prop} {o : Option eV} {w1 : eW} {mc ms : Nat} {free : Addr → Prop} (h : vx_Met l (eNam y) ws rm Pc (eQr E α A (.inl o, w1)) (eXr E α A (.inl o, w1)) mc ms free) : Met l (eNam y) ws rm Pc (eQr E α A (.inl o, w1)) mc ms free := by
  intro p e h1 h2 h3 s m args below h4 h5 h6 h7
  obtain ⟨n, oc, k1, k2, k3, k4⟩ := h p e h1 h2 h3 s m args below h4 h5 h6 h7
  refine ⟨n, oc, k1, k2, k3, ?_⟩
  rcases k4 with k4 | ⟨q, -, En, ce, L, ⟨k, β, ws1, -, hk, -⟩, -⟩
  · exact k4
  · cases hk
theorem eHd_of {lo n : Nat} (h : eHdC lo n = true) {M : Nat} (h1 : lo ≤ M) (h2 : M < lo + n) : lw_tbl[eHp M]? = some (eHd M) := by
  have h3 := List.all_eq_true.mp h (M - lo) (List.mem_range.mpr (by omega))
  rw [show lo + (M - lo) = M by omega] at h3
  exact of_decide_eq_true h3
theorem eHd_ok {M : Nat} (hM : M < 344) : eHd M ∈ eAll := by
  have h : lw_tbl[eHp M]? = some (eHd M) := by
    rcases Nat.lt_or_ge M 20 with h0 | h0
    · exact eHd_of eHd_0 (by omega) (by omega)
    rcases Nat.lt_or_ge M 40 with h1 | h1
    · exact eHd_of eHd_1 (by omega) (by omega)
    rcases Nat.lt_or_ge M 60 with h2 | h2
    · exact eHd_of eHd_2 (by omega) (by omega)
    rcases Nat.lt_or_ge M 80 with h3 | h3
    · exact eHd_of eHd_3 (by omega) (by omega)
    rcases Nat.lt_or_ge M 100 with h4 | h4
    · exact eHd_of eHd_4 (by omega) (by omega)
    rcases Nat.lt_or_ge M 120 with h5 | h5
    · exact eHd_of eHd_5 (by omega) (by omega)
    rcases Nat.lt_or_ge M 140 with h6 | h6
    · exact eHd_of eHd_6 (by omega) (by omega)
    rcases Nat.lt_or_ge M 160 with h7 | h7
    · exact eHd_of eHd_7 (by omega) (by omega)
    rcases Nat.lt_or_ge M 180 with h8 | h8
    · exact eHd_of eHd_8 (by omega) (by omega)
    rcases Nat.lt_or_ge M 200 with h9 | h9
    · exact eHd_of eHd_9 (by omega) (by omega)
    rcases Nat.lt_or_ge M 220 with h10 | h10
    · exact eHd_of eHd_10 (by omega) (by omega)
    rcases Nat.lt_or_ge M 240 with h11 | h11
    · exact eHd_of eHd_11 (by omega) (by omega)
    rcases Nat.lt_or_ge M 260 with h12 | h12
    · exact eHd_of eHd_12 (by omega) (by omega)
    rcases Nat.lt_or_ge M 280 with h13 | h13
    · exact eHd_of eHd_13 (by omega) (by omega)
    rcases Nat.lt_or_ge M 300 with h14 | h14
    · exact eHd_of eHd_14 (by omega) (by omega)
    rcases Nat.lt_or_ge M 320 with h15 | h15
    · exact eHd_of eHd_15 (by omega) (by omega)
    rcases Nat.lt_or_ge M 340 with h16 | h16
    · exact eHd_of eHd_16 (by omega) (by omega)
    exact eHd_of eHd_17 (by omega) (by omega)
  exact eAll_of h (by unfold eHd; cases eHas M <;> rfl)
def eMpB (M : Nat) : Bool := bif Nat.beq (eKd M) 0 then decide (lw_tbl[(eMp M).1]? = some (.instanceMethod (eNam M))) && decide (lw_tbl[(eMp M).2]? = some (.selects (eCN (eOw M)) (eNam M) (eNam M)))
  else bif Nat.beq (eKd M) 1 then decide (lw_tbl[(eMp M).1]? = some (.static (eNam M))) else decide (lw_tbl[(eMp M).1]? = some (.instanceMethod (eNam M)))
theorem eMp_of {lo n : Nat} (h : eMpC lo n = true) {M : Nat} (h1 : lo ≤ M) (h2 : M < lo + n) : eMpB M = true := by
  have h3 := List.all_eq_true.mp h (M - lo) (List.mem_range.mpr (by omega))
  rw [show lo + (M - lo) = M by omega] at h3
  exact h3
theorem eMp_ok {M : Nat} (hM : M < 344) : eMpB M = true := by
  rcases Nat.lt_or_ge M 20 with h0 | h0
  · exact eMp_of eMp_0 (by omega) (by omega)
  rcases Nat.lt_or_ge M 40 with h1 | h1
  · exact eMp_of eMp_1 (by omega) (by omega)
  rcases Nat.lt_or_ge M 60 with h2 | h2
  · exact eMp_of eMp_2 (by omega) (by omega)
  rcases Nat.lt_or_ge M 80 with h3 | h3
  · exact eMp_of eMp_3 (by omega) (by omega)
  rcases Nat.lt_or_ge M 100 with h4 | h4
  · exact eMp_of eMp_4 (by omega) (by omega)
  rcases Nat.lt_or_ge M 120 with h5 | h5
  · exact eMp_of eMp_5 (by omega) (by omega)
  rcases Nat.lt_or_ge M 140 with h6 | h6
  · exact eMp_of eMp_6 (by omega) (by omega)
  rcases Nat.lt_or_ge M 160 with h7 | h7
  · exact eMp_of eMp_7 (by omega) (by omega)
  rcases Nat.lt_or_ge M 180 with h8 | h8
  · exact eMp_of eMp_8 (by omega) (by omega)
  rcases Nat.lt_or_ge M 200 with h9 | h9
  · exact eMp_of eMp_9 (by omega) (by omega)
  rcases Nat.lt_or_ge M 220 with h10 | h10
  · exact eMp_of eMp_10 (by omega) (by omega)
  rcases Nat.lt_or_ge M 240 with h11 | h11
  · exact eMp_of eMp_11 (by omega) (by omega)
  rcases Nat.lt_or_ge M 260 with h12 | h12
  · exact eMp_of eMp_12 (by omega) (by omega)
  rcases Nat.lt_or_ge M 280 with h13 | h13
  · exact eMp_of eMp_13 (by omega) (by omega)
  rcases Nat.lt_or_ge M 300 with h14 | h14
  · exact eMp_of eMp_14 (by omega) (by omega)
  rcases Nat.lt_or_ge M 320 with h15 | h15
  · exact eMp_of eMp_15 (by omega) (by omega)
  rcases Nat.lt_or_ge M 340 with h16 | h16
  · exact eMp_of eMp_16 (by omega) (by omega)
  exact eMp_of eMp_17 (by omega) (by omega)
theorem eMp_v {M : Nat} (hM : M < 344) (h : eKd M = 0) : Cond.instanceMethod (eNam M) ∈ eAll ∧ Cond.selects (eCN (eOw M)) (eNam M) (eNam M) ∈ eAll := by
  have h1 := eMp_ok hM
  unfold eMpB at h1
  rw [h] at h1
  simp only [Nat.beq, cond_true, Bool.and_eq_true, decide_eq_true_eq] at h1
  exact ⟨eAll_of h1.1 rfl, eAll_of h1.2 rfl⟩
theorem eMp_s {M : Nat} (hM : M < 344) (h : eKd M = 1) : Cond.static (eNam M) ∈ eAll := by
  have h1 := eMp_ok hM
  unfold eMpB at h1
  rw [h] at h1
  simp only [Nat.beq, cond_true, cond_false, decide_eq_true_eq] at h1
  exact eAll_of h1 rfl
theorem eMp_i {M : Nat} (hM : M < 344) (h : eKd M = 2) : Cond.instanceMethod (eNam M) ∈ eAll := by
  have h1 := eMp_ok hM
  unfold eMpB at h1
  rw [h] at h1
  simp only [Nat.beq, cond_false, decide_eq_true_eq] at h1
  exact eAll_of h1 rfl
theorem eNam_at {M : Nat} (hM : M < 345) : (eNam M).cls = eCN (eOw M) ∧ plainName (eNam M).cls = true ∧ ((eNam M).cls ≠ "java/lang/invoke/MethodHandle" ∧ (eNam M).cls ≠ "java/lang/invoke/VarHandle" ∧ (parseMethodDescriptor (eNam M).desc).map (fun d => d.parameters.length) = some (eNar M)) ∧ (eKd M = 2 → (eNam M).name = "<init>") ∧ eMaxL M ≤ 20 ∧ eOw M < 10 := by
  have h := List.all_eq_true.mp eNam_ok M (List.mem_range.mpr hM)
  simp only [Bool.and_eq_true, decide_eq_true_eq, Nat.ble_eq, Nat.blt_eq] at h
  obtain ⟨h1, h2, h3, h4, h5, h6⟩ := h
  refine ⟨h1, h2, h3, fun hk => ?_, h5, h6⟩
  rw [hk] at h4
  exact of_decide_eq_true h4.symm
theorem eNar_s : ∀ M, M < 345 → eKd M = 1 → eNar M ≤ eMaxL M := by decide +kernel
theorem eNar_v : ∀ M, M < 345 → eKd M ≠ 1 → eNar M + 1 ≤ eMaxL M := by decide +kernel
theorem eRt_2 : ∀ M, M < 345 → eKd M = 2 → eRt M = none := by decide +kernel
theorem eHas_0 : ∀ M, M < 345 → eKd M ≠ 1 → eHas M = false := by decide +kernel
theorem eGood {y : Nat} (hy : y < 344) : GoodIn eAll (eHd y :: eAll) := by
  intro w hw
  have h : w ∈ eAll := by
    rcases List.mem_cons.mp hw with rfl | h
    · exact eHd_ok hy
    · exact h
  exact ⟨h, good_of_word (List.mem_filter.mp h).2⟩
theorem eTR_sR {E : eE} {α : List Nat} : ∀ (n : Nat) (st acc as rest : List eV), eTR n st acc = some (as, rest) → ∀ stv, sR E α st stv → ∃ vs rv, stv = vs.reverse ++ rv ∧ vs.length = n ∧ sR E α rest rv ∧ ∀ accv, sR E α acc accv → sR E α as (vs ++ accv)
  | 0, st, acc, as, rest, h, stv, hs => by
    simp only [eTR, Option.some.injEq, Prod.mk.injEq] at h
    obtain ⟨rfl, rfl⟩ := h
    exact ⟨[], stv, rfl, rfl, hs, fun _ h => h⟩
  | n + 1, [], acc, as, rest, h, stv, hs => by cases h
  | n + 1, x :: st, acc, as, rest, h, stv, hs => by
    obtain ⟨xv, ys, rfl, hx, hs1⟩ := sR_inv hs
    obtain ⟨vs, rv, rfl, h2, h3, h4⟩ := eTR_sR n st (x :: acc) as rest h ys hs1
    refine ⟨vs ++ [xv], rv, by simp, by simp [h2], h3, fun accv ha => ?_⟩
    rw [List.append_assoc]
    exact h4 _ ⟨hx, ha⟩
theorem ePc_blind {E : eE} {α : List Nat} {ws : va_W} {sz : Nat} {w : eW} {as : List eV} : FrameBlind (ePc E α ws sz w as) := fun _ U _ _ h => ⟨h.1, h.2.1, h.2.2.1, h.2.2.2.1, va_K.moved (State.WarmedH.refl U).alike h.2.2.2.2.1, h.2.2.2.2.2.1, eX_same h.2.2.2.2.2.2 rfl rfl⟩
def eCt (k : Nat) : Nat := match k with
  | 13 => 0 | 19 => 1 | 43 => 2 | 61 => 3 | _ => 9
theorem eCt_in {k : Nat} (h : eCt k < 4) : Cond.classLink "ShopCrossLaw" k (eExN (eCt k)) ∈ eAll ∧ k ≠ 0 := by
  unfold eCt at h ⊢
  split
  · exact ⟨eAll_of (i := 891) (by decide +kernel) rfl, by decide⟩
  · exact ⟨eAll_of (i := 967) (by decide +kernel) rfl, by decide⟩
  · exact ⟨eAll_of (i := 1039) (by decide +kernel) rfl, by decide⟩
  · exact ⟨eAll_of (i := 1098) (by decide +kernel) rfl, by decide⟩
  · rename_i h1 h2 h3 h4
    exfalso
    split at h <;> first | omega | contradiction
theorem eCast_in : ∀ k, k < 4 → Cond.castable (eExN k) (eExN k) ∈ eSp := by
  have h : ∀ k, k < 4 → decide (Cond.castable (eExN k) (eExN k) ∈ lw_tbl) = true := by decide +kernel
  exact fun k hk => List.mem_filter.mpr ⟨of_decide_eq_true (h k hk), rfl⟩
def eHin (M pc E pc2 : Nat) (x : Nat × Nat × Nat × Nat) : Bool := (Nat.ble x.1 pc && Nat.blt pc x.2.1) && (Nat.beq (eCt x.2.2.2) E && (match decode (eByt M) x.2.2.1 with
  | .ok (.astore k, 2) => Nat.beq pc2 (x.2.2.1 + 2) && Nat.blt k (eMaxL M)
  | .ok (.astore_n k, 1) => Nat.beq pc2 (x.2.2.1 + 1) && Nat.blt k (eMaxL M)
  | _ => false))
def eCatB (M pc E : Nat) : Bool := match eCatch M pc E with
  | none => decide (eHh M = [])
  | some none => true
  | some (some (_, pc2)) => Nat.beq (eOw M) 8 && (match eHh M with
    | [x] => eHin M pc E pc2 x
    | [x, y] => eHin M pc E pc2 x || (Nat.blt (eCt x.2.2.2) 4 && (!(Nat.beq (eCt x.2.2.2) E) && eHin M pc E pc2 y))
    | _ => false)
theorem eCat_chk : (List.range 39).all (fun i => Nat.ble (eLB (305 + i)) 40 && (List.range 40).all fun pc => (List.range 4).all fun E => eCatB (305 + i) pc E) = true := by decide +kernel
theorem eHh_lo : ∀ M, M < 345 → M < 305 ∨ M = 344 → eHh M = [] := by decide +kernel
theorem eCat_ok {M pc E : Nat} (hM : M < 345) (hp : pc < eLB M) (hE : E < 4) : eCatB M pc E = true := by
  by_cases h : M < 305 ∨ M = 344
  · have h0 : eCatch M pc E = none := by
      rcases h with h | rfl
      · unfold eCatch
        rw [show Nat.blt M 305 = true from (Nat.blt_eq).mpr h]
        rfl
      · rfl
    unfold eCatB
    rw [h0]
    exact decide_eq_true (eHh_lo M hM h)
  · have h1 := List.all_eq_true.mp eCat_chk (M - 305) (List.mem_range.mpr (by omega))
    rw [show 305 + (M - 305) = M by omega] at h1
    simp only [Bool.and_eq_true, Nat.ble_eq] at h1
    exact List.all_eq_true.mp (List.all_eq_true.mp h1.2 pc (List.mem_range.mpr (by omega))) E (List.mem_range.mpr hE)
section Calls
variable {p : Program} {l : Launch} {e : Env} {R : Room} {s : State} {m : MethodId} {args : Array Value} {below : List Frame} {meth : Method} {c : Code} {E : eE} {A : Nat → Prop} {X : List Nat × (Nat × Nat)} {r : (Option eV ⊕ Nat) × eW} {M pc len i a b : Nat} {ls : eL} {st : List eV} {w : eW} {J : eFn}
theorem eVA {ws : va_W} {H : Heap} {locs : List Loc} (hA : ∀ q, s.heap.size ≤ q → A q) (hD : va_D A ws) (hS : va_S A s.heap H locs) : ∀ q, va_A ws H.size q → A q := by
  rintro q (⟨k, e9, h⟩ | h)
  · exact hD.2 k (q, e9) h
  · exact hA q (Nat.le_trans hS.1 h)
theorem ePc_in {as : List eV} {vs : List Value} {β : List Nat} {ws : va_W} {H : Heap} {locs : List Loc} (hF : eFr p l R s m args meth c E A M) (hw : wR E (X.1 ++ β) w.1 ws) (hP : va_P E.1 vwCl ws H) (hD : va_D A ws) (hS : va_S A s.heap H locs) (hs : sR E (X.1 ++ β) as vs) : ∀ U : State, U.heap = H → s.WarmedH U.vm → ePc E (X.1 ++ β) ws H.size w as vs.toArray U := fun U hU hW =>
  ⟨⟨vs, rfl, hs⟩, by rw [hU], hw, by rw [hU]; exact hP, hF.2.2.2.2.2.2.2.2.2.2.1.moved hW.alike, hD.weaken (fun _ _ _ _ => trivial), eX_at hF.2.2.2.2.2.2.2.2.2.2.2.1 (H := H) hS.1 hS.2.1 hU hW (eVA hF.2.2.2.2.2.2.2.2.2.2.2.2.1 hD hS)⟩
theorem eRoom {y : Nat} {w1 : eW} (hF : eFr p l R s m args meth c E A M) (hy : y < 344) (hdep : eDep y < eDep M) : (eRm y w w1).frames + 1 ≤ R.frames ∧ 8 + (eMaxL y + 11) + (eRm y w w1).locals ≤ R.locals := by
  have hfr := hF.2.2.2.2.2.2.2.2.2.2.2.2.2.1
  have hlo := hF.2.2.2.2.2.2.2.2.2.2.2.2.2.2
  have hm := (eNam_at (M := y) (by omega)).2.2.2.2.1
  constructor
  · show eDep y + 1 ≤ _
    omega
  · show 8 + (eMaxL y + 11) + 39 * eDep y ≤ _
    omega
theorem eInit_in {y : Nat} (hy : y < 344) : Cond.initialized (eNam y).cls ∈ eAll := by
  rw [(eNam_at (M := y) (by omega)).1]
  exact eIni_in _ (eNam_at (M := y) (by omega)).2.2.2.2.2
theorem eCB {y : Nat} {w1 : eW} (hF : eFr p l R s m args meth c E A M) (hy : y < 344) (hh : eHas y = false) (hl : (Cond.methodLink (eCN (eOw M)) i (eNam y)).before args s = true) (hdep : eDep y < eDep M) :
    CallB R s args (eCN (eOw M)) i (eNam y) (eByt y) (eMaxL y) (eRt y) (eHd y :: eAll) (eRm y w w1) (w1.2.1 - w.2.1) (w1.2.2 - w.2.2) (eNar y) :=
  callB_of (Ts := eAll) (ws' := eAll) _ hF.2.2.2.2.2.2.2.1 (eGood hy) (by unfold eHd; rw [hh]; rfl) rfl rfl (hF.2.2.2.2.2.2.2.1 _ (eInit_in hy)) hl (eNam_at (M := y) (by omega)).2.2.1 (eRoom hF hy hdep)
theorem eCfix (hF : eFr p l R s m args meth c E A M) : CallFix p m c (eByt M) (eMaxL M) s args eAll (eCN (eOw M)) := ⟨hF.1, hF.2.2.1, hF.2.2.2.1, hF.2.2.2.2.2.1, hF.2.2.2.2.2.2.2.1⟩
theorem eRunS {y : Nat} {w1 : eW} {H : Heap} {locs : List Loc} {kc ks : Nat} {lsm : Array Slot} {Pc : Array Value → State → Prop} {Qc : Array Value → State → Outcome → State → Prop} {free : Addr → Prop} {As rest : List Value} (hF : eFr p l R s m args meth c E A M) (hy : y < 344) (hk : eKd y = 1) (hl : Cond.methodLink (eCN (eOw M)) i (eNam y) ∈ eAll) (hdep : eDep y < eDep M)
    (hM : Met l (eNam y) (eHd y :: eAll) (eRm y w w1) Pc Qc (w1.2.1 - w.2.1) (w1.2.2 - w.2.2) free) (hp : PreS s H Pc As) (hn : As.length = eNar y) (hsize : lsm.size = eMaxL M) (hW : (rest.map fun v => v.category).sum ≤ 8) (hd : decode (eByt M) pc = .ok (.invokestatic i, 3)) (hf : kc + (w1.2.1 - w.2.1) ≤ R.cells ∧ ks + (w1.2.2 - w.2.2) ≤ R.slots) :
    va_Run p l e R s m args below meth c H locs kc ks (w1.2.1 - w.2.1) (w1.2.2 - w.2.2) (F0 m pc lsm (As.reverse ++ rest)) rest (Qc As.toArray) free := by
  cases hh : eHas y with
  | false => exact va_runS (eCfix hF) hM ⟨eCB hF hy hh (hF.2.2.2.2.2.2.2.1 _ hl) hdep, hF.2.2.2.2.2.2.2.1 _ (eMp_s hy hk)⟩ hp rfl hn hsize rfl (by show 2 * 0 + _ ≤ 8; omega) hd hf
  | true =>
    refine vx_runSW (hh := eHh y) (maxL := eMaxL y) (bytes := eByt y) (ret := eRt y) (eCfix hF) hM (vx_cwSW (Ts := eAll) (ws' := eAll) _ hF.2.2.2.2.2.2.2.1 ?_ (by unfold eHd; rw [hh]; rfl) rfl rfl (eNam_at (M := y) (by omega)).2.2.1 (eRoom hF hy hdep)) hp rfl hn hsize rfl (by show 2 * 0 + _ ≤ 8; omega) hd hf
    intro w9 hw9
    unfold va_wsS at hw9
    have hin : w9 ∈ eAll := by
      rcases List.mem_append.mp hw9 with h | h
      · rcases List.mem_cons.mp h with rfl | h
        · exact hl
        rcases List.mem_cons.mp h with rfl | h
        · exact eMp_s hy hk
        rcases List.mem_cons.mp h with rfl | h
        · exact eInit_in hy
        · cases h
      · exact (eGood hy _ h).1
    exact ⟨hin, good_of_word (List.mem_filter.mp hin).2⟩
theorem eRunI {y : Nat} {w1 : eW} {H : Heap} {locs : List Loc} {kc ks : Nat} {lsm : Array Slot} {Pc : Array Value → State → Prop} {Qc : Array Value → State → Outcome → State → Prop} {free : Addr → Prop} {b9 : Addr} {As rest : List Value} (hF : eFr p l R s m args meth c E A M) (hy : y < 344) (hk : eKd y = 2) (hl : eIn5 eMS (eOw M) i y 0 = true ∨ eIn5 eMS (eOw M) i y 1 = true) (hdep : eDep y < eDep M)
    (hM : Met l (eNam y) (eHd y :: eAll) (eRm y w w1) Pc Qc (w1.2.1 - w.2.1) (w1.2.2 - w.2.2) free) (hp : PreS s H Pc (.ref b9 :: As)) (hn : As.length = eNar y) (hsize : lsm.size = eMaxL M) (hW : (rest.map fun v => v.category).sum ≤ 8) (hd : decode (eByt M) pc = .ok (.invokespecial i, 3)) (hf : kc + (w1.2.1 - w.2.1) ≤ R.cells ∧ ks + (w1.2.2 - w.2.2) ≤ R.slots) :
    va_Run p l e R s m args below meth c H locs kc ks (w1.2.1 - w.2.1) (w1.2.2 - w.2.2) (F0 m pc lsm (As.reverse ++ .ref b9 :: rest)) rest (Qc (Value.ref b9 :: As).toArray) free := by
  have hh := eHas_0 y (by omega) (by omega)
  have hr := eRt_2 y (by omega) hk
  have hN := eNam_at (M := y) (by omega)
  rcases hl with hl | hl
  · have hcb := eCB (i := i) (w := w) (w1 := w1) hF hy hh (hF.2.2.2.2.2.2.2.1 _ (by have := eMS_in hl; rwa [show eNm y = eNam y from by unfold eNm; rw [show Nat.blt y 345 = true from (Nat.blt_eq).mpr (by omega)]; rfl] at this)) hdep
    rw [hr] at hcb
    exact va_runI (eCfix hF) hM ⟨hcb, hN.2.2.2.1 hk, hF.2.2.2.2.2.2.2.1 _ (eMp_i hy hk)⟩ hp rfl hn hsize rfl (by show 2 * 0 + _ ≤ 8; omega) hd hf
  · have hl9 := eMS_in1 hl
    rw [show eNm y = eNam y from by unfold eNm; rw [show Nat.blt y 345 = true from (Nat.blt_eq).mpr (by omega)]; rfl] at hl9
    exact va_runIN (eCfix hF) hM ⟨va_cnB (Ts := eAll) (ws' := eAll) (bytes := eByt y) (maxL := eMaxL y) _ hF.2.2.2.2.2.2.2.1 (eGood hy) (by unfold eHd; rw [hh, hr]; rfl) rfl rfl (hF.2.2.2.2.2.2.2.2.2.2.2.1.1 _ hl9) (hF.2.2.2.2.2.2.2.1 _ (eInit_in hy)) hN.2.2.1 (eRoom hF hy hdep), hN.2.2.2.1 hk, hF.2.2.2.2.2.2.2.1 _ (eMp_i hy hk)⟩ hp rfl hn hsize rfl (by show 2 * 0 + _ ≤ 8; omega) hd hf
theorem eRunV {y : Nat} {w1 : eW} {H : Heap} {locs : List Loc} {kc ks : Nat} {lsm : Array Slot} {Pc : Array Value → State → Prop} {Qc : Array Value → State → Outcome → State → Prop} {free : Addr → Prop} {b9 : Addr} {As rest : List Value} (hF : eFr p l R s m args meth c E A M) (hy : y < 344) (hk : eKd y = 0) (hl : eIn5 eMS (eOw M) i y 0 = true ∨ eIn5 eMS (eOw M) i y 1 = true) (hdep : eDep y < eDep M)
    (hM : Met l (eNam y) (eHd y :: eAll) (eRm y w w1) Pc Qc (w1.2.1 - w.2.1) (w1.2.2 - w.2.2) free) (hp : PreV s H (eCN (eOw y)) b9 Pc As) (hn : As.length = eNar y) (hsize : lsm.size = eMaxL M) (hW : (rest.map fun v => v.category).sum ≤ 8) (hd : decode (eByt M) pc = .ok (.invokevirtual i, 3)) (hf : kc + (w1.2.1 - w.2.1) ≤ R.cells ∧ ks + (w1.2.2 - w.2.2) ≤ R.slots) :
    va_Run p l e R s m args below meth c H locs kc ks (w1.2.1 - w.2.1) (w1.2.2 - w.2.2) (F0 m pc lsm (As.reverse ++ .ref b9 :: rest)) rest (Qc (Value.ref b9 :: As).toArray) free := by
  have hh := eHas_0 y (by omega) (by omega)
  have hN := eNam_at (M := y) (by omega)
  have hv := eMp_v hy hk
  rcases hl with hl | hl
  · exact va_runV (eCfix hF) hM ⟨eCB (i := i) (w := w) (w1 := w1) hF hy hh (hF.2.2.2.2.2.2.2.1 _ (by have := eMS_in hl; rwa [show eNm y = eNam y from by unfold eNm; rw [show Nat.blt y 345 = true from (Nat.blt_eq).mpr (by omega)]; rfl] at this)) hdep, hF.2.2.2.2.2.2.2.1 _ hv.1, hF.2.2.2.2.2.2.2.1 _ hv.2⟩ hp rfl hn hsize rfl (by show 2 * 0 + _ ≤ 8; omega) hd hf
  · have hl9 := eMS_in1 hl
    rw [show eNm y = eNam y from by unfold eNm; rw [show Nat.blt y 345 = true from (Nat.blt_eq).mpr (by omega)]; rfl] at hl9
    exact va_runVN (eCfix hF) hM ⟨va_cnB (Ts := eAll) (ws' := eAll) (bytes := eByt y) (maxL := eMaxL y) (ret := eRt y) _ hF.2.2.2.2.2.2.2.1 (eGood hy) (by unfold eHd; rw [hh]; rfl) rfl rfl (hF.2.2.2.2.2.2.2.2.2.2.2.1.1 _ hl9) (hF.2.2.2.2.2.2.2.1 _ (eInit_in hy)) hN.2.2.1 (eRoom hF hy hdep), hF.2.2.2.2.2.2.2.1 _ hv.1, hF.2.2.2.2.2.2.2.1 _ hv.2⟩ hp rfl hn hsize rfl (by show 2 * 0 + _ ≤ 8; omega) hd hf
theorem eRunX {y : Nat} {w1 : eW} {H : Heap} {locs : List Loc} {kc ks : Nat} {lsm : Array Slot} {Pc : Array Value → State → Prop} {Qc : Array Value → State → Outcome → State → Prop} {XC : String → State → State → Prop} {free : Addr → Prop} {b9 : Addr} {As rest : List Value} (hF : eFr p l R s m args meth c E A M) (hy : y < 344) (hk : eKd y = 0) (hl : eIn5 eMS (eOw M) i y 0 = true) (hdep : eDep y < eDep M)
    (hM : vx_Met l (eNam y) (eHd y :: eAll) (eRm y w w1) Pc Qc XC (w1.2.1 - w.2.1) (w1.2.2 - w.2.2) free) (hp : PreV s H (eCN (eOw y)) b9 Pc As) (hn : As.length = eNar y) (hsize : lsm.size = eMaxL M) (hW : (rest.map fun v => v.category).sum ≤ 8) (hd : decode (eByt M) pc = .ok (.invokevirtual i, 3)) (hf : kc + (w1.2.1 - w.2.1) ≤ R.cells ∧ ks + (w1.2.2 - w.2.2) ≤ R.slots) :
    vx_Run p l e R s m args below meth c H locs kc ks (w1.2.1 - w.2.1) (w1.2.2 - w.2.2) (F0 m pc lsm (As.reverse ++ .ref b9 :: rest)) rest (Qc (Value.ref b9 :: As).toArray) XC free := by
  have hh := eHas_0 y (by omega) (by omega)
  have hv := eMp_v hy hk
  exact vx_runV (eCfix hF) hM ⟨eCB (i := i) (w := w) (w1 := w1) hF hy hh (hF.2.2.2.2.2.2.2.1 _ (by have := eMS_in hl; rwa [show eNm y = eNam y from by unfold eNm; rw [show Nat.blt y 345 = true from (Nat.blt_eq).mpr (by omega)]; rfl] at this)) hdep, hF.2.2.2.2.2.2.2.1 _ hv.1, hF.2.2.2.2.2.2.2.1 _ hv.2⟩ hp rfl hn hsize rfl (by show 2 * 0 + _ ≤ 8; omega) hd hf
/-- a return comes in -/
theorem o_take {α0 : List Nat} {o : Option eV} {w1 : eW} {aa : Array Value} {ws : va_W} {H : Heap} {locs : List Loc} {kc ks mc ms : Nat} {lsm : Array Slot} {stv rest : List Value} {Q : State → Prop} (hr : va_Run p l e R s m args below meth c H locs kc ks mc ms (F0 m pc lsm stv) rest (eQr E α0 (va_A ws H.size) (.inl o, w1) aa) (va_A ws H.size)) (hA : ∀ q, va_A ws H.size q → A q) (hS : va_S A s.heap H locs)
    (k : ∀ (β : List Nat) (ws1 : va_W) (H1 : Heap) (locs1 : List Loc) (v : Option Value), eRV E (α0 ++ β) o v → wR E (α0 ++ β) w1.1 ws1 → va_P E.1 vwCl ws1 H1 → va_D A ws1 → va_S A s.heap H1 locs1 → W p l e R s m args below meth c H1 locs1 (kc + mc) (ks + ms) Q (F0 m (pc + 3) lsm (v.toList ++ rest))) : W p l e R s m args below meth c H locs kc ks Q (F0 m pc lsm stv) := by
  intro T hT XX
  obtain ⟨v, st0, t, T', L, h0, X', hL, e1, e2, ⟨o', v', β, ws1, ho, hv, hrv, hw, hP, hD, hFF⟩, st⟩ := hr T hT XX
  cases ho
  cases hv
  obtain ⟨k1, k2, k3⟩ := vx_keep h0 e1 hS (fun q _ hq => hA q hq) hA hL hFF
  obtain ⟨t2, a1, b1⟩ := k β ws1 T'.heap (locs ++ L) v hrv hw (by rw [e1]; exact hP) (hD.weaken (fun _ _ _ h => hA _ h)) k3 T' rfl X'
  exact ⟨t2, st t2 a1, b1⟩
theorem o_takeX {α0 : List Nat} {r0 : (Option eV ⊕ Nat) × eW} {aa : Array Value} {ws : va_W} {H : Heap} {locs : List Loc} {kc ks mc ms : Nat} {lsm : Array Slot} {stv rest : List Value} {Q : State → Prop} (hr : vx_Run p l e R s m args below meth c H locs kc ks mc ms (F0 m pc lsm stv) rest (eQr E α0 (va_A ws H.size) r0 aa) (eXr E α0 (va_A ws H.size) r0) (va_A ws H.size)) (hA : ∀ q, va_A ws H.size q → A q) (hS : va_S A s.heap H locs)
    (k : ∀ (o : Option eV) (β : List Nat) (ws1 : va_W) (H1 : Heap) (locs1 : List Loc) (v : Option Value), r0.1 = .inl o → eRV E (α0 ++ β) o v → wR E (α0 ++ β) r0.2.1 ws1 → va_P E.1 vwCl ws1 H1 → va_D A ws1 → va_S A s.heap H1 locs1 → W p l e R s m args below meth c H1 locs1 (kc + mc) (ks + ms) Q (F0 m (pc + 3) lsm (v.toList ++ rest)))
    (kx : ∀ (En : Nat) (β : List Nat) (ws1 : va_W) (H1 : Heap) (locs1 : List Loc) (ce : Cell) (q9 : Addr), En < 4 → r0.1 = .inr En → wR E (α0 ++ β) r0.2.1 ws1 → va_P E.1 vwCl ws1 H1 → va_D A ws1 → va_S A s.heap H1 locs1 → H1[q9]? = some ce → ce.vm = .none → s.vm.findClass (eExN En) = some ce.cls → vx_W p l e R s m args below meth c H1 locs1 (kc + mc) (ks + ms) Q (F0 m pc lsm rest) q9) : W p l e R s m args below meth c H locs kc ks Q (F0 m pc lsm stv) := by
  intro T hT XX
  rcases hr T hT XX with ⟨v, st0, t, T', L, h0, X', hL, e1, e2, ⟨o', v', β, ws1, ho, hv, hrv, hw, hP, hD, hFF⟩, st⟩ | ⟨q, st0, t, T', L, En, ce, h0, X', hL, e1, e2, ⟨k0, β, ws1, hk4, hk0, hEn, hw, hP, hD, hFF⟩, hce, hcv, hcl, st⟩
  · cases hv
    obtain ⟨k1, k2, k3⟩ := vx_keep h0 e1 hS (fun q _ hq => hA q hq) hA hL hFF
    obtain ⟨t2, a1, b1⟩ := k o' β ws1 T'.heap (locs ++ L) v ho hrv hw (by rw [e1]; exact hP) (hD.weaken (fun _ _ _ h => hA _ h)) k3 T' rfl X'
    exact ⟨t2, st t2 a1, b1⟩
  · subst hEn
    obtain ⟨k1, k2, k3⟩ := vx_keep h0 e1 hS (fun q _ hq => hA q hq) hA hL hFF
    obtain ⟨t2, a1, b1⟩ := kx k0 β ws1 T'.heap (locs ++ L) ce q hk4 hk0 hw (by rw [e1]; exact hP) (hD.weaken (fun _ _ _ h => hA _ h)) k3 (by rw [e1]; exact hce) hcv hcl T' rfl X'
    exact ⟨t2, st.trans a1, b1⟩
/-- the receiver -/
theorem o_recv {α : List Nat} {w9 : List eC} {ws : va_W} {H : Heap} {k9 c9 : Nat} {fs : List eV} {x : Value} (hw : wR E α w9 ws) (hP : va_P E.1 vwCl ws H) (hK : va_K E.1 vwCl (eTs E) s) (hc : eNth w9 k9 = some (.inr (.inl (c9, fs)))) (hx : vR E α (.inr (.inl (some k9))) x) : ∃ b9, x = .ref b9 ∧ ∃ cell : Cell, H[b9]? = some cell ∧ cell.vm.isStatics = false ∧ s.vm.findClass (eCN c9) = some cell.cls := by
  rcases wR_get hw hc with ⟨rfl, h9⟩ | ⟨k1, a1, e1, rfl, ha, he, hr⟩
  · cases h9
  · obtain ⟨a2, ha2, rfl⟩ := vR_ref hx
    cases ha.symm.trans ha2
    obtain ⟨vs, rfl, -, hc8, -⟩ := hr
    exact ⟨a1, rfl, va_recv hK hP (eCl_at c9 hc8) he⟩
/-- a result is put, the walk goes on -/
theorem o_goes {β : List Nat} {o : Option eV} {w1 : eW} {rest : List eV} {lsm : Array Slot} {rv : List Value} {kc ks : Nat} (hk : eOk p l e R s m args below meth c E A X r M (pc + 3) ls (o.toList ++ rest) w1) (hle : w.2.1 ≤ w1.2.1 ∧ w.2.2 ≤ w1.2.2) (hl : lR E (X.1 ++ β) (eMaxL M) ls lsm) (hs : sR E (X.1 ++ β) rest rv) (h1 : kc + X.2.1 = w.2.1) (h2 : ks + X.2.2 = w.2.2) :
    ∀ (β1 : List Nat) (ws1 : va_W) (H1 : Heap) (locs1 : List Loc) (v : Option Value), eRV E (X.1 ++ β ++ β1) o v → wR E (X.1 ++ β ++ β1) w1.1 ws1 → va_P E.1 vwCl ws1 H1 → va_D A ws1 → va_S A s.heap H1 locs1 →
      W p l e R s m args below meth c H1 locs1 (kc + (w1.2.1 - w.2.1)) (ks + (w1.2.2 - w.2.2)) (vx_MQ below (eQr E X.1 A r) (eXr E X.1 A r) args s R.cells R.slots A) (F0 m (pc + 3) lsm (v.toList ++ rv)) := by
  intro β1 ws1 H1 locs1 v hv hw1 hP1 hD1 hS1
  rw [List.append_assoc] at hv hw1
  refine hk.2 (β ++ β1) ws1 H1 locs1 lsm _ _ _ (by rw [← List.append_assoc]; exact lR_mono hl) ?_ hw1 hP1 hD1 hS1 (by omega) (by omega)
  cases o with
  | none =>
    cases v with
    | none => rw [← List.append_assoc]; exact sR_mono hs
    | some v => exact hv.elim
  | some o =>
    cases v with
    | none => exact hv.elim
    | some v => exact ⟨hv, by rw [← List.append_assoc]; exact sR_mono hs⟩
theorem o_callT {C : eFn} (hF : eFr p l R s m args meth c E A M) (hJ : ∀ (pc : Nat) (ls : eL) (st : List eV) (w : eW), J M pc ls st w = some r → eOk p l e R s m args below meth c E A X r M pc ls st w) (hC : ∀ (y : Nat) (as : List eV) (w : eW) (r : (Option eV ⊕ Nat) × eW), y < 344 → C y 0 (eArgs as) [] w = some r → eCon l y as w r) (hR : r.2.2.1 ≤ R.cells + X.2.1 ∧ r.2.2.2 ≤ R.slots + X.2.2) (ha : a < 344) (hd : decode (eByt M) pc = .ok (.invokestatic i, 3)) (hk9 : eIn5 eMS (eOw M) i a 0 = true) (hkd : eKd a = 1) (hb : b = eNar a)
    (q : eCallT C J (eDep M) (eDep a) M pc a b ls st w = some r) : eOk p l e R s m args below meth c E A X r M pc ls st w := by
  unfold eCallT at q; split at q
  · rename_i as rest hTR
    simp only [Bool.cond_eq_ite, Bool.and_eq_true] at q; split at q
    · rename_i ht
      have go : ∀ (o : Option eV) (w1 : eW), C a 0 (eArgs as) [] w = some (.inl o, w1) → eOk p l e R s m args below meth c E A X r M (pc + 3) ls (o.toList ++ rest) w1 → eOk p l e R s m args below meth c E A X r M pc ls st w := by
        intro o w1 hc hk
        obtain ⟨hcl, hcon⟩ := hC a as w _ ha hc
        refine ⟨⟨Nat.le_trans hcl.1 hk.1.1, Nat.le_trans hcl.2 hk.1.2⟩, fun β ws H locs lsm stv kc ks hl hs hw hP hD hS h1 h2 => ?_⟩
        have hk1 := hk.1
        dsimp only at hcl hk1
        obtain ⟨vs, rv, rfl, hlen, hrest, has⟩ := eTR_sR _ _ _ _ _ hTR _ hs
        have has := has [] trivial
        rw [List.append_nil] at has
        have hm := eMS_in hk9
        rw [show eNm a = eNam a from by unfold eNm; rw [show Nat.blt a 345 = true from (Nat.blt_eq).mpr (by omega)]; rfl] at hm
        exact o_take (eRunS (w := w) (w1 := w1) hF ha hkd hm ((Nat.blt_eq).mp ht.2.2) (eMet_of (hcon E (X.1 ++ β) ws H.size ht.1 (by rw [← sR_len has, hlen, hb]; exact eNar_s a (by omega) hkd))) ⟨ePc_blind, ePc_in hF hw hP hD hS has⟩ (hlen.trans hb) hl.1 (by rw [sR_cats hrest]; exact Nat.le_of_ble_eq_true ht.2.1) hd (by omega)) (eVA hF.2.2.2.2.2.2.2.2.2.2.2.2.1 hD hS) hS (o_goes hk hcl hl hrest h1 h2)
      unfold eBack0 at q
      split at q
      · rename_i w1 hc
        exact go none w1 hc (hJ _ _ _ _ q)
      · rename_i v w1 hc
        exact go (some v) w1 hc (hJ _ _ _ _ q)
      · cases q
    · cases q
  · cases q
theorem o_callI {C : eFn} (hF : eFr p l R s m args meth c E A M) (hJ : ∀ (pc : Nat) (ls : eL) (st : List eV) (w : eW), J M pc ls st w = some r → eOk p l e R s m args below meth c E A X r M pc ls st w) (hC : ∀ (y : Nat) (as : List eV) (w : eW) (r : (Option eV ⊕ Nat) × eW), y < 344 → C y 0 (eArgs as) [] w = some r → eCon l y as w r) (hR : r.2.2.1 ≤ R.cells + X.2.1 ∧ r.2.2.2 ≤ R.slots + X.2.2) (ha : a < 344) (hb : b = eNar a + 1) (hnar : eNar a + 1 ≤ eMaxL a) (hcls : eCls a = eOw a)
    (run : ∀ {w1 : eW} {H : Heap} {locs : List Loc} {kc ks : Nat} {lsm : Array Slot} {Pc : Array Value → State → Prop} {Qc : Array Value → State → Outcome → State → Prop} {free : Addr → Prop} {b9 : Addr} {As rest : List Value}, eDep a < eDep M → Met l (eNam a) (eHd a :: eAll) (eRm a w w1) Pc Qc (w1.2.1 - w.2.1) (w1.2.2 - w.2.2) free → PreV s H (eCN (eOw a)) b9 Pc As → As.length = eNar a → lsm.size = eMaxL M → (rest.map fun v => v.category).sum ≤ 8 → kc + (w1.2.1 - w.2.1) ≤ R.cells ∧ ks + (w1.2.2 - w.2.2) ≤ R.slots →
      va_Run p l e R s m args below meth c H locs kc ks (w1.2.1 - w.2.1) (w1.2.2 - w.2.2) (F0 m pc lsm (As.reverse ++ .ref b9 :: rest)) rest (Qc (Value.ref b9 :: As).toArray) free)
    (q : eCallI C J (eDep M) (eDep a) (eCls a) M pc a b ls st w = some r) : eOk p l e R s m args below meth c E A X r M pc ls st w := by
  unfold eCallI at q; split at q
  · rename_i k9 as rest hTR
    split at q
    · rename_i c9 fs9 hc9
      simp only [Bool.cond_eq_ite, Bool.and_eq_true] at q; split at q
      · rename_i ht
        have go : ∀ (o : Option eV) (w1 : eW), C a 0 (eArgs (.inr (.inl (some k9)) :: as)) [] w = some (.inl o, w1) → eOk p l e R s m args below meth c E A X r M (pc + 3) ls (o.toList ++ rest) w1 → eOk p l e R s m args below meth c E A X r M pc ls st w := by
          intro o w1 hc hk
          obtain ⟨hcl, hcon⟩ := hC a _ w _ ha hc
          refine ⟨⟨Nat.le_trans hcl.1 hk.1.1, Nat.le_trans hcl.2 hk.1.2⟩, fun β ws H locs lsm stv kc ks hl hs hw hP hD hS h1 h2 => ?_⟩
          have hk1 := hk.1
          dsimp only at hcl hk1
          obtain ⟨vs, rv, rfl, hlen, hrest, has⟩ := eTR_sR _ _ _ _ _ hTR _ hs
          have has := has [] trivial
          rw [List.append_nil] at has
          have has9 := has
          have hlen9 := hlen
          obtain ⟨x, As, rfl, hx, -⟩ := sR_inv has
          obtain ⟨b9, rfl, hcell⟩ := o_recv hw hP hF.2.2.2.2.2.2.2.2.2.2.1 hc9 hx
          have hall : eAll1 (.inr (.inl (some k9)) :: as) = true := by
            show (true && eAll1 as) = true
            rw [ht.2.1]
            rfl
          obtain rfl := Nat.eq_of_beq_eq_true ht.1
          rw [hcls] at hcell
          rw [show (Value.ref b9 :: As).reverse ++ rv = As.reverse ++ .ref b9 :: rv by simp]
          exact o_take (run (w1 := w1) ((Nat.blt_eq).mp ht.2.2.2) (eMet_of (hcon E (X.1 ++ β) ws H.size hall (by rw [← sR_len has9, hlen9, hb]; exact hnar))) ⟨ePc_blind, hcell, ePc_in hF hw hP hD hS has⟩ (by simp at hlen; omega) hl.1 (by rw [sR_cats hrest]; exact Nat.le_of_ble_eq_true ht.2.2.1) (by omega)) (eVA hF.2.2.2.2.2.2.2.2.2.2.2.2.1 hD hS) hS (o_goes hk hcl hl hrest h1 h2)
        unfold eBack0 at q
        split at q
        · rename_i w1 hc
          exact go none w1 hc (hJ _ _ _ _ q)
        · rename_i v w1 hc
          exact go (some v) w1 hc (hJ _ _ _ _ q)
        · cases q
      · cases q
    · cases q
  · cases q
/-- what is caught goes on -/
theorem eCat2_none {M pc E : Nat} (h : eCat2 M pc E = none) : M ≠ 344 ∧ eCatch M pc E = none := by
  unfold eCat2 at h
  cases hb : Nat.beq M 344 with
  | true =>
    rw [hb] at h
    cases h
  | false =>
    rw [hb] at h
    exact ⟨fun e => (by subst e; cases hb), h⟩
theorem eCat2_some {M pc E : Nat} {x : Nat × Nat} (h : eCat2 M pc E = some (some x)) : M ≠ 344 ∧ eCatch M pc E = some (some x) := by
  unfold eCat2 at h
  cases hb : Nat.beq M 344 with
  | true =>
    rw [hb] at h
    cases h
  | false =>
    rw [hb] at h
    exact ⟨fun e => (by subst e; cases hb), h⟩
theorem o_catch {w1 : eW} {En pc2 k2 : Nat} {β : List Nat} {ws1 : va_W} {H1 : Heap} {locs1 : List Loc} {ce : Cell} {q9 : Addr} {lsm : Array Slot} {rest : List Value} {kc ks : Nat} (hF : eFr p l R s m args meth c E A M) (hM : M < 345) (hM4 : M ≠ 344) (hpc : pc < eLB M) (hE : En < 4) (hcat : eCatch M pc En = some (some (k2, pc2))) (hk : eOk p l e R s m args below meth c E A X r M pc2 [] [] w1) (hsz : lsm.size = eMaxL M) (hwf : lv_wf lsm) (hl : lR E (X.1 ++ β) (eMaxL M) [] lsm) (hw : wR E (X.1 ++ β) w1.1 ws1) (hP : va_P E.1 vwCl ws1 H1) (hD : va_D A ws1) (hS : va_S A s.heap H1 locs1) (hce : H1[q9]? = some ce) (hcv : ce.vm = .none) (hcl : s.vm.findClass (eExN En) = some ce.cls) (h1 : kc + X.2.1 = w1.2.1) (h2 : ks + X.2.2 = w1.2.2) :
    vx_W p l e R s m args below meth c H1 locs1 kc ks (vx_MQ below (eQr E X.1 A r) (eXr E X.1 A r) args s R.cells R.slots A) (F0 m pc lsm rest) q9 := by
  have hb := eCat_ok hM hpc hE
  unfold eCatB at hb
  rw [hcat] at hb
  simp only [Bool.and_eq_true, Nat.beq_eq] at hb
  obtain ⟨ho8, hb⟩ := hb
  have hown := hF.2.2.2.2.2.1
  rw [ho8] at hown
  have hx := hF.2.2.2.2.2.2.2.2.2.2.2.1
  have hnc := hx.2.2.2.2.2.2.2.2.2.2.2.2
  have fin : ∀ (pre : List (Nat × Nat × Nat × Nat)) (x : Nat × Nat × Nat × Nat) (suf : List (Nat × Nat × Nat × Nat)), eHh M = pre ++ x :: suf → (∀ z ∈ pre, eCt z.2.2.2 < 4 ∧ eCt z.2.2.2 ≠ En) → eHin M pc En pc2 x = true →
      vx_W p l e R s m args below meth c H1 locs1 kc ks (vx_MQ below (eQr E X.1 A r) (eXr E X.1 A r) args s R.cells R.slots A) (F0 m pc lsm rest) q9 := by
    intro pre x suf hsp hpre hin
    unfold eHin at hin
    simp only [Bool.and_eq_true, Nat.ble_eq, Nat.blt_eq, Nat.beq_eq] at hin
    obtain ⟨⟨c1, c2⟩, c3, c4⟩ := hin
    have hct := eCt_in (k := x.2.2.2) (by omega)
    rw [c3] at hct
    refine vx_catch (name := eExN En) (own := "ShopCrossLaw") hown (pre.map fun h => { startPc := h.1, endPc := h.2.1, handlerPc := h.2.2.1, catchType := h.2.2.2 }) { startPc := x.1, endPc := x.2.1, handlerPc := x.2.2.1, catchType := x.2.2.2 } (suf.map fun h => { startPc := h.1, endPc := h.2.1, handlerPc := h.2.2.1, catchType := h.2.2.2 }) (by rw [hF.2.2.2.2.2.2.2.2.2.1 hM4, hsp, List.map_append]; rfl) (fun z hz => ?_) ?_ hct.2 (hF.2.2.2.2.2.2.2.1 _ hct.1) (va_Nw.use rfl (hx.1 _ (eCast_in En hE))) hce hcv hcl ?_
    · obtain ⟨h, hh, rfl⟩ := List.mem_map.mp hz
      obtain ⟨g1, g2⟩ := hpre h hh
      have hc2 := eCt_in (k := h.2.2.2) g1
      exact Or.inr ⟨hc2.2, eExN (eCt h.2.2.2), hF.2.2.2.2.2.2.2.1 _ hc2.1, hnc En _ hE g1 (fun h => g2 h.symm)⟩
    · show (decide _ && decide _) = true
      simp only [Bool.and_eq_true, decide_eq_true_eq]
      exact ⟨c1, c2⟩
    · have fin2 : ∀ lsm' : Array Slot, lsm'.size = eMaxL M → lv_wf lsm' → W p l e R s m args below meth c H1 locs1 kc ks (vx_MQ below (eQr E X.1 A r) (eXr E X.1 A r) args s R.cells R.slots A) (F0 m pc2 lsm' []) := fun lsm' z1 z2 =>
        hk.2 β ws1 H1 locs1 lsm' [] kc ks ⟨z1, z2, fun j v hj => by simp [eNth] at hj⟩ trivial hw hP hD hS h1 h2
      split at c4
      · rename_i k9 hd9
        simp only [Bool.and_eq_true, Nat.beq_eq, Nat.blt_eq] at c4
        rw [c4.1] at fin2
        exact lv_astore hF.1 hF.2.2.1 hd9 (eAllL_has hl) c4.2 rfl (fun ls' h' => fin2 ls' h'.1 h'.2.1)
      · rename_i k9 hd9
        simp only [Bool.and_eq_true, Nat.beq_eq, Nat.blt_eq] at c4
        rw [c4.1] at fin2
        exact lv_astore_n hF.1 hF.2.2.1 hd9 rfl (eAllL_has hl) c4.2 rfl (fun ls' h' => fin2 ls' h'.1 h'.2.1)
      · cases c4
  split at hb
  · rename_i x hx1
    exact fin [] x [] hx1 (fun _ h => by cases h) hb
  · rename_i x y hx1
    simp only [Bool.or_eq_true, Bool.and_eq_true, Nat.blt_eq, Bool.not_eq_true'] at hb
    rcases hb with hb | ⟨g1, g2, hb⟩
    · exact fin [] x [y] hx1 (fun _ h => by cases h) hb
    · refine fin [x] y [] hx1 (fun z hz => ?_) hb
      obtain rfl := List.mem_singleton.mp hz
      exact ⟨g1, fun h => by rw [h, show Nat.beq En En = true from Nat.beq_refl En] at g2; cases g2⟩
  · cases hb
theorem o_callW {C : eFn} (hF : eFr p l R s m args meth c E A M) (hJ : ∀ (pc : Nat) (ls : eL) (st : List eV) (w : eW), J M pc ls st w = some r → eOk p l e R s m args below meth c E A X r M pc ls st w) (hC : ∀ (y : Nat) (as : List eV) (w : eW) (r : (Option eV ⊕ Nat) × eW), y < 344 → C y 0 (eArgs as) [] w = some r → eCon l y as w r) (hR : r.2.2.1 ≤ R.cells + X.2.1 ∧ r.2.2.2 ≤ R.slots + X.2.2) (hM : M < 345) (hpc : pc < eLB M) (ha : a < 344) (hd : decode (eByt M) pc = .ok (.invokevirtual i, 3)) (hk9 : eIn5 eMS (eOw M) i a 0 = true) (hkd : eKd a = 0) (hb : b = eNar a + 1) (hnar : eNar a + 1 ≤ eMaxL a) (hcls : eCls a = eOw a)
    (q : eCallW C J (eDep M) (eDep a) (eCls a) M pc a b ls st w (eCat2 M pc) = some r) : eOk p l e R s m args below meth c E A X r M pc ls st w := by
  unfold eCallW at q; split at q
  · rename_i k9 as rest hTR
    split at q
    · rename_i c9 fs9 hc9
      simp only [Bool.cond_eq_ite, Bool.and_eq_true] at q; split at q
      · rename_i ht
        have go : ∀ (r0 : (Option eV ⊕ Nat) × eW), C a 0 (eArgs (.inr (.inl (some k9)) :: as)) [] w = some r0 → (r0.2.2.1 ≤ r.2.2.1 ∧ r0.2.2.2 ≤ r.2.2.2) → (∀ o, r0.1 = .inl o → eOk p l e R s m args below meth c E A X r M (pc + 3) ls (o.toList ++ rest) r0.2) → (∀ En, r0.1 = .inr En → (M ≠ 344 ∧ eCatch M pc En = none ∧ r = (.inr En, r0.2)) ∨ ∃ k2 pc2, M ≠ 344 ∧ eCatch M pc En = some (some (k2, pc2)) ∧ eOk p l e R s m args below meth c E A X r M pc2 [] [] r0.2) → eOk p l e R s m args below meth c E A X r M pc ls st w := by
          intro r0 hc hle hk hkx
          obtain ⟨hcl, hcon⟩ := hC a _ w _ ha hc
          refine ⟨⟨Nat.le_trans hcl.1 hle.1, Nat.le_trans hcl.2 hle.2⟩, fun β ws H locs lsm stv kc ks hl hs hw hP hD hS h1 h2 => ?_⟩
          obtain ⟨vs, rv, rfl, hlen, hrest, has⟩ := eTR_sR _ _ _ _ _ hTR _ hs
          have has := has [] trivial
          rw [List.append_nil] at has
          have has9 := has
          have hlen9 := hlen
          obtain ⟨x, As, rfl, hx, -⟩ := sR_inv has
          obtain ⟨b9, rfl, hcell⟩ := o_recv hw hP hF.2.2.2.2.2.2.2.2.2.2.1 hc9 hx
          have hall : eAll1 (.inr (.inl (some k9)) :: as) = true := by
            show (true && eAll1 as) = true
            rw [ht.2.1]
            rfl
          obtain rfl := Nat.eq_of_beq_eq_true ht.1
          rw [hcls] at hcell
          rw [show (Value.ref b9 :: As).reverse ++ rv = As.reverse ++ .ref b9 :: rv by simp]
          refine o_takeX (eRunX (w := w) (w1 := r0.2) hF ha hkd hk9 ((Nat.blt_eq).mp ht.2.2.2) (hcon E (X.1 ++ β) ws H.size hall (by rw [← sR_len has9, hlen9, hb]; exact hnar)) ⟨ePc_blind, hcell, ePc_in hF hw hP hD hS has⟩ (by simp at hlen; omega) hl.1 (by rw [sR_cats hrest]; exact Nat.le_of_ble_eq_true ht.2.2.1) hd (by omega)) (eVA hF.2.2.2.2.2.2.2.2.2.2.2.2.1 hD hS) hS ?_ ?_
          · intro o β1 ws1 H1 locs1 v ho hv hw1 hP1 hD1 hS1
            exact o_goes (hk o ho) hcl hl hrest h1 h2 β1 ws1 H1 locs1 v hv hw1 hP1 hD1 hS1
          · intro En β1 ws1 H1 locs1 ce q9 hE4 hEn hw1 hP1 hD1 hS1 hce hcv hcls9
            rw [List.append_assoc] at hw1
            rcases hkx En hEn with ⟨hM4, hcat, hr⟩ | ⟨k2, pc2, hM4, hcat, hok⟩
            · have hb := eCat_ok hM hpc hE4
              unfold eCatB at hb
              rw [hcat] at hb
              have hnil : eHh M = [] := of_decide_eq_true hb
              refine vx_out (fun x hx9 => ?_) hF.2.2.2.2.2.2.1 hce hcv hcls9 (fun t ht9 hal => ⟨En, β ++ β1, ws1, hE4, by rw [hr], rfl, by rw [hr]; exact hw1, by rw [ht9]; exact hP1, hD1, hS1.F ht9⟩) hS1.2.2 (by omega) (by omega)
              rw [hF.2.2.2.2.2.2.2.2.2.1 hM4, hnil] at hx9
              cases hx9
            · exact o_catch hF hM hM4 hpc hE4 hcat hok hl.1 hl.2.1 ⟨hl.1, hl.2.1, fun j v hj => by simp [eNth] at hj⟩ hw1 hP1 hD1 hS1 hce hcv hcls9 (by omega) (by omega)
        unfold eBackW at q
        split at q
        · rename_i w1 hc
          have hk := hJ _ _ _ _ q
          exact go _ hc hk.1 (fun o ho => by cases ho; exact hk) (fun En h => by cases h)
        · rename_i v w1 hc
          have hk := hJ _ _ _ _ q
          exact go _ hc hk.1 (fun o ho => by cases ho; exact hk) (fun En h => by cases h)
        · rename_i En w1 hc
          split at q
          · rename_i hcat
            obtain rfl := Option.some.inj q
            exact go _ hc ⟨Nat.le_refl _, Nat.le_refl _⟩ (fun o ho => by cases ho) (fun En' h => by cases h; exact Or.inl ⟨(eCat2_none hcat).1, (eCat2_none hcat).2, rfl⟩)
          · cases q
          · rename_i k2 pc2 hcat
            have hk := hJ _ _ _ _ q
            exact go _ hc hk.1 (fun o ho => by cases ho) (fun En' h => by cases h; exact Or.inr ⟨_, _, (eCat2_some hcat).1, (eCat2_some hcat).2, hk⟩)
        · cases q
      · cases q
    · cases q
  · cases q
end Calls
