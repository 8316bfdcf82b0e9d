/-! Each instruction of the pure machine is the JVM's: those that touch no cell. -/
theorem sR_inv {E : eE} {α : List Nat} {v : eV} {st : List eV} {xs : List Value} (h : sR E α (v :: st) xs) : ∃ x ys, xs = x :: ys ∧ vR E α v x ∧ sR E α st ys := by
  cases xs with
  | nil => exact h.elim
  | cons x ys => exact ⟨x, ys, rfl, h.1, h.2⟩
/-- the locals as the kit has them -/
theorem lv_put {E : eE} {α : List Nat} {nL i : Nat} {ls : eL} {lsm ls' : Array Slot} {l : List (Nat × Value)} {o : Option eV} {v : Value} (hl : lR E α nL ls lsm) (h' : lv_has ls' nL ((i, v) :: l)) (hv : ∀ u, o = some u → vR E α u v)
    (hk : ∀ (j : Nat) (u : eV) (x : Value), j ≠ i → eNth ls j = some (some u) → lsm[j]? = some (.val x) → (j, x) ∈ l) : lR E α nL (ePut ls i o) ls' := by
  refine ⟨h'.1, h'.2.1, fun j u hj => ?_⟩
  rcases ePut_nth ls i o j u hj with ⟨rfl, h2⟩ | ⟨h1, h2⟩
  · exact ⟨v, h'.2.2 (j, v) List.mem_cons_self, hv u h2⟩
  · obtain ⟨x, hx, hr⟩ := hl.2.2 j u h2
    exact ⟨x, h'.2.2 (j, x) (List.mem_cons_of_mem _ (hk j u x h1 h2 hx)), hr⟩
/-- all locals that hold a value -/
def eAllL (lsm : Array Slot) : List (Nat × Value) := (List.range lsm.size).filterMap fun j => match (lsm[j]? : Option Slot) with
  | some (Slot.val x) => some (j, x)
  | _ => none
theorem eAllL_mem {lsm : Array Slot} {j : Nat} {x : Value} : (j, x) ∈ eAllL lsm ↔ lsm[j]? = some (.val x) := by
  unfold eAllL
  rw [List.mem_filterMap]
  constructor
  · rintro ⟨k, -, hk⟩
    split at hk
    · rename_i y hy
      cases hk
      exact hy
    · cases hk
  · intro h
    refine ⟨j, List.mem_range.mpr (Array.getElem?_eq_some_iff.mp h).1, ?_⟩
    rw [h]
theorem eAllL_has {E : eE} {α : List Nat} {nL : Nat} {ls : eL} {lsm : Array Slot} (hl : lR E α nL ls lsm) : lv_has lsm nL (eAllL lsm) := ⟨hl.1, hl.2.1, fun q hq => eAllL_mem.mp hq⟩
theorem eBelow_cat {E : eE} {α : List Nat} {nL i j : Nat} {ls : eL} {lsm : Array Slot} {u : eV} {x : Value} (hb : eBelow ls i = true) (hl : lR E α nL ls lsm) (hj : eNth ls j = some (some u)) (hx : lsm[j]? = some (.val x)) (hji : j + 1 = i) : x.category = 1 := by
  subst hji
  unfold eBelow at hb
  simp only [hj] at hb
  obtain ⟨y, hy, hr⟩ := hl.2.2 j u hj
  rw [hx] at hy
  cases hy
  rw [vR_cat hr]
  exact Nat.eq_of_beq_eq_true hb
theorem eAllL_keep {E : eE} {α : List Nat} {nL i : Nat} {ls : eL} {lsm : Array Slot} (hb : eBelow ls i = true) (hl : lR E α nL ls lsm) : ∀ (j : Nat) (u : eV) (x : Value), j ≠ i → eNth ls j = some (some u) → lsm[j]? = some (.val x) → (j, x) ∈ (eAllL lsm).filter (fun q => !(q.1 == i) && !(q.1 + 1 == i && q.2.category == 2)) := by
  intro j u x hji hj hx
  refine List.mem_filter.mpr ⟨eAllL_mem.mpr hx, ?_⟩
  by_cases h : j + 1 = i
  · have := eBelow_cat hb hl hj hx h
    simp [hji, this]
  · simp [hji, h]
theorem lR_take {E : eE} {α : List Nat} {nL k : Nat} {ls : eL} {lsm : Array Slot} (hl : lR E α nL ls lsm) : lR E α nL (eTake k ls) lsm := ⟨hl.1, hl.2.1, fun i v h => hl.2.2 i v (eTake_nth _ _ _ _ h)⟩
theorem ofInt_toInt' (x : Int32) : Int32.ofInt x.toInt = x := Int32.ofInt_toInt x
section Sim
variable {p : Program} {l : Launch} {e : Env} {R : Room} {s : State} {m : MethodId} {args : Array Value} {below : List Frame} {meth : Method} {c : Code} {E : eE} {A : Nat → Prop} {X : List Nat × (Nat × Nat)} {r : (Option eV ⊕ Nat) × eW} {M pc len i a b : Nat} {ls : eL} {st : List eV} {w : eW} {J : eFn}
/-- a step that moves neither cells nor counts -/
theorem o_step {pc2 : Nat} {ls2 : eL} {st2 : List eV} (h : eOk p l e R s m args below meth c E A X r M pc2 ls2 st2 w)
    (k : ∀ (β : List Nat) (H : Heap) (locs : List Loc) (lsm : Array Slot) (stv : List Value) (kc ks : Nat) (Q : State → Prop), lR E (X.1 ++ β) (eMaxL M) ls lsm → sR E (X.1 ++ β) st stv →
      (∀ (lsm2 : Array Slot) (stv2 : List Value), lR E (X.1 ++ β) (eMaxL M) ls2 lsm2 → sR E (X.1 ++ β) st2 stv2 → W p l e R s m args below meth c H locs kc ks Q (F0 m pc2 lsm2 stv2)) → W p l e R s m args below meth c H locs kc ks Q (F0 m pc lsm stv)) : eOk p l e R s m args below meth c E A X r M pc ls st w := by
  obtain ⟨hle, hk⟩ := h
  exact ⟨hle, fun β ws H locs lsm stv kc ks hl hs hw hP hD hS h1 h2 => k β H locs lsm stv kc ks _ hl hs (fun lsm2 stv2 hl2 hs2 => hk β ws H locs lsm2 stv2 kc ks hl2 hs2 hw hP hD hS h1 h2)⟩
theorem o_bin {f : Int → Int → Int} {g : Int32 → Int32 → Int32} (hJ : ∀ (pc : Nat) (ls : eL) (st : List eV) (w : eW), J M pc ls st w = some r → eOk p l e R s m args below meth c E A X r M pc ls st w) (hfg : ∀ x y, Int32.ofInt (f x y) = g (Int32.ofInt x) (Int32.ofInt y)) (q : eBin J M pc ls st w f = some r)
    (row : ∀ {H : Heap} {locs : List Loc} {kc ks : Nat} {Q : State → Prop} {lsm : Array Slot} {x y : Int32} {rest : List Value}, W p l e R s m args below meth c H locs kc ks Q (F0 m (pc + 1) lsm (.int (g x y) :: rest)) → W p l e R s m args below meth c H locs kc ks Q (F0 m pc lsm (.int y :: .int x :: rest))) : eOk p l e R s m args below meth c E A X r M pc ls st w := by
  unfold eBin at q; split at q
  · refine o_step (hJ _ _ _ _ q) (fun β H locs lsm stv kc ks Q hl hs k => ?_)
    obtain ⟨_, _, rfl, rfl, hs1⟩ := sR_inv hs
    obtain ⟨_, _, rfl, rfl, hs2⟩ := sR_inv hs1
    exact row (k _ _ hl ⟨by show _ = _; rw [hfg], hs2⟩)
  · cases q
theorem o_iadd (hF : eFr p l R s m args meth c E A M) (hJ : ∀ (pc : Nat) (ls : eL) (st : List eV) (w : eW), J M pc ls st w = some r → eOk p l e R s m args below meth c E A X r M pc ls st w) (hd : decode (eByt M) pc = .ok (.iadd, 1)) (q : eBin J M pc ls st w (fun x y => x + y) = some r) : eOk p l e R s m args below meth c E A X r M pc ls st w := by
  refine o_bin (g := fun x y => x + y) hJ (fun x y => Int32.ofInt_add x y) q (fun k => ?_)
  exact lv_iadd hF.1 hF.2.2.1 hd k
theorem o_isub (hF : eFr p l R s m args meth c E A M) (hJ : ∀ (pc : Nat) (ls : eL) (st : List eV) (w : eW), J M pc ls st w = some r → eOk p l e R s m args below meth c E A X r M pc ls st w) (hd : decode (eByt M) pc = .ok (.isub, 1)) (q : eBin J M pc ls st w (fun x y => x - y) = some r) : eOk p l e R s m args below meth c E A X r M pc ls st w := by
  refine o_bin (g := fun x y => x - y) hJ (fun x y => Int32.ofInt_sub x y) q (fun k => ?_)
  exact lv_isub hF.1 hF.2.2.1 hd k
theorem o_imul (hF : eFr p l R s m args meth c E A M) (hJ : ∀ (pc : Nat) (ls : eL) (st : List eV) (w : eW), J M pc ls st w = some r → eOk p l e R s m args below meth c E A X r M pc ls st w) (hd : decode (eByt M) pc = .ok (.imul, 1)) (q : eBin J M pc ls st w (fun x y => x * y) = some r) : eOk p l e R s m args below meth c E A X r M pc ls st w := by
  refine o_bin (g := fun x y => x * y) hJ (fun x y => Int32.ofInt_mul x y) q (fun k => ?_)
  exact lv_imul hF.1 hF.2.2.1 hd k
theorem o_iand (hF : eFr p l R s m args meth c E A M) (hJ : ∀ (pc : Nat) (ls : eL) (st : List eV) (w : eW), J M pc ls st w = some r → eOk p l e R s m args below meth c E A X r M pc ls st w) (hd : decode (eByt M) pc = .ok (.iand, 1)) (q : eBin J M pc ls st w bAnd = some r) : eOk p l e R s m args below meth c E A X r M pc ls st w := by
  refine o_bin (g := fun x y => x &&& y) hJ (fun x y => ofInt_toInt' _) q (fun k => ?_)
  exact lv_iand hF.1 hF.2.2.1 hd k
theorem o_ior (hF : eFr p l R s m args meth c E A M) (hJ : ∀ (pc : Nat) (ls : eL) (st : List eV) (w : eW), J M pc ls st w = some r → eOk p l e R s m args below meth c E A X r M pc ls st w) (hd : decode (eByt M) pc = .ok (.ior, 1)) (q : eBin J M pc ls st w bOr = some r) : eOk p l e R s m args below meth c E A X r M pc ls st w := by
  refine o_bin (g := fun x y => x ||| y) hJ (fun x y => ofInt_toInt' _) q (fun k => ?_)
  exact lv_ior hF.1 hF.2.2.1 hd k
theorem o_ixor (hF : eFr p l R s m args meth c E A M) (hJ : ∀ (pc : Nat) (ls : eL) (st : List eV) (w : eW), J M pc ls st w = some r → eOk p l e R s m args below meth c E A X r M pc ls st w) (hd : decode (eByt M) pc = .ok (.ixor, 1)) (q : eBin J M pc ls st w bXor = some r) : eOk p l e R s m args below meth c E A X r M pc ls st w := by
  refine o_bin (g := fun x y => x ^^^ y) hJ (fun x y => ofInt_toInt' _) q (fun k => ?_)
  exact lv_ixor hF.1 hF.2.2.1 hd k
theorem o_ishl (hF : eFr p l R s m args meth c E A M) (hJ : ∀ (pc : Nat) (ls : eL) (st : List eV) (w : eW), J M pc ls st w = some r → eOk p l e R s m args below meth c E A X r M pc ls st w) (hd : decode (eByt M) pc = .ok (.ishl, 1)) (q : eBin J M pc ls st w bShl = some r) : eOk p l e R s m args below meth c E A X r M pc ls st w := by
  refine o_bin (g := fun x y => x <<< (y &&& 31)) hJ (fun x y => ofInt_toInt' _) q (fun k => ?_)
  exact lv_ishl hF.1 hF.2.2.1 hd k
theorem o_ishr (hF : eFr p l R s m args meth c E A M) (hJ : ∀ (pc : Nat) (ls : eL) (st : List eV) (w : eW), J M pc ls st w = some r → eOk p l e R s m args below meth c E A X r M pc ls st w) (hd : decode (eByt M) pc = .ok (.ishr, 1)) (q : eBin J M pc ls st w bShr = some r) : eOk p l e R s m args below meth c E A X r M pc ls st w := by
  refine o_bin (g := fun x y => x >>> (y &&& 31)) hJ (fun x y => ofInt_toInt' _) q (fun k => ?_)
  exact lv_ishr hF.1 hF.2.2.1 hd k
theorem o_iushr (hF : eFr p l R s m args meth c E A M) (hJ : ∀ (pc : Nat) (ls : eL) (st : List eV) (w : eW), J M pc ls st w = some r → eOk p l e R s m args below meth c E A X r M pc ls st w) (hd : decode (eByt M) pc = .ok (.iushr, 1)) (q : eBin J M pc ls st w bUshr = some r) : eOk p l e R s m args below meth c E A X r M pc ls st w := by
  refine o_bin (g := fun x y => (x.toUInt32 >>> (y.toUInt32 &&& Int32.toUInt32 31)).toInt32) hJ (fun x y => ofInt_toInt' _) q (fun k => ?_)
  exact lv_iushr hF.1 hF.2.2.1 hd rfl k
theorem o_idiv (hF : eFr p l R s m args meth c E A M) (hJ : ∀ (pc : Nat) (ls : eL) (st : List eV) (w : eW), J M pc ls st w = some r → eOk p l e R s m args below meth c E A X r M pc ls st w) (hd : decode (eByt M) pc = .ok (.idiv, 1)) {x y : Int} {st : List eV} (hy : ¬ wr y = 0) (q : J M (pc + 1) ls (.inl (bDiv x y) :: st) w = some r) : eOk p l e R s m args below meth c E A X r M pc ls (.inl y :: .inl x :: st) w := by
  refine o_step (hJ _ _ _ _ q) (fun β H locs lsm stv kc ks Q hl hs k => ?_)
  obtain ⟨_, _, rfl, rfl, hs1⟩ := sR_inv hs
  obtain ⟨_, _, rfl, rfl, hs2⟩ := sR_inv hs1
  exact lv_idiv hF.1 hF.2.2.1 hd (fun h => hy ((wr_eq_iff y 0).mp (by rw [h]; rfl))) (k _ _ hl ⟨by show _ = _; unfold bDiv; rw [ofInt_toInt'], hs2⟩)
theorem o_irem (hF : eFr p l R s m args meth c E A M) (hJ : ∀ (pc : Nat) (ls : eL) (st : List eV) (w : eW), J M pc ls st w = some r → eOk p l e R s m args below meth c E A X r M pc ls st w) (hd : decode (eByt M) pc = .ok (.irem, 1)) {x y : Int} {st : List eV} (hy : ¬ wr y = 0) (q : J M (pc + 1) ls (.inl (bRem x y) :: st) w = some r) : eOk p l e R s m args below meth c E A X r M pc ls (.inl y :: .inl x :: st) w := by
  refine o_step (hJ _ _ _ _ q) (fun β H locs lsm stv kc ks Q hl hs k => ?_)
  obtain ⟨_, _, rfl, rfl, hs1⟩ := sR_inv hs
  obtain ⟨_, _, rfl, rfl, hs2⟩ := sR_inv hs1
  exact lv_irem hF.1 hF.2.2.1 hd (fun h => hy ((wr_eq_iff y 0).mp (by rw [h]; rfl))) (k _ _ hl ⟨by show _ = _; unfold bRem; rw [ofInt_toInt'], hs2⟩)
theorem o_push {v : eV} {x : Value} (hJ : ∀ (pc : Nat) (ls : eL) (st : List eV) (w : eW), J M pc ls st w = some r → eOk p l e R s m args below meth c E A X r M pc ls st w) (hv : ∀ β, vR E (X.1 ++ β) v x) (q : J M (pc + len) ls (v :: st) w = some r)
    (row : ∀ {H : Heap} {locs : List Loc} {kc ks : Nat} {Q : State → Prop} {lsm : Array Slot} {rest : List Value}, W p l e R s m args below meth c H locs kc ks Q (F0 m (pc + len) lsm (x :: rest)) → W p l e R s m args below meth c H locs kc ks Q (F0 m pc lsm rest)) : eOk p l e R s m args below meth c E A X r M pc ls st w := by
  refine o_step (hJ _ _ _ _ q) (fun β H locs lsm stv kc ks Q hl hs k => ?_)
  exact row (k _ _ hl ⟨hv β, hs⟩)
theorem o_iconst (hF : eFr p l R s m args meth c E A M) (hJ : ∀ (pc : Nat) (ls : eL) (st : List eV) (w : eW), J M pc ls st w = some r → eOk p l e R s m args below meth c E A X r M pc ls st w) {n : Int} (hd : decode (eByt M) pc = .ok (.iconst n, 1)) (q : J M (pc + 1) ls (.inl n :: st) w = some r) : eOk p l e R s m args below meth c E A X r M pc ls st w :=
  o_push (v := .inl n) (x := .int (Int32.ofInt n)) hJ (fun _ => rfl) q (fun k => lv_iconst hF.1 hF.2.2.1 hd rfl k)
theorem o_bipush (hF : eFr p l R s m args meth c E A M) (hJ : ∀ (pc : Nat) (ls : eL) (st : List eV) (w : eW), J M pc ls st w = some r → eOk p l e R s m args below meth c E A X r M pc ls st w) {n : Int} (hd : decode (eByt M) pc = .ok (.bipush n, 2)) (hn : (Int8.ofInt n).toInt32 = Int32.ofInt n) (q : J M (pc + 2) ls (.inl n :: st) w = some r) : eOk p l e R s m args below meth c E A X r M pc ls st w :=
  o_push (v := .inl n) (x := .int (Int32.ofInt n)) hJ (fun _ => rfl) q (fun k => lv_bipush hF.1 hF.2.2.1 hd hn k)
theorem o_sipush (hF : eFr p l R s m args meth c E A M) (hJ : ∀ (pc : Nat) (ls : eL) (st : List eV) (w : eW), J M pc ls st w = some r → eOk p l e R s m args below meth c E A X r M pc ls st w) {n : Int} (hd : decode (eByt M) pc = .ok (.sipush n, 3)) (hn : (Int16.ofInt n).toInt32 = Int32.ofInt n) (q : J M (pc + 3) ls (.inl n :: st) w = some r) : eOk p l e R s m args below meth c E A X r M pc ls st w :=
  o_push (v := .inl n) (x := .int (Int32.ofInt n)) hJ (fun _ => rfl) q (fun k => lv_sipush hF.1 hF.2.2.1 hd hn k)
theorem o_lconst (hF : eFr p l R s m args meth c E A M) (hJ : ∀ (pc : Nat) (ls : eL) (st : List eV) (w : eW), J M pc ls st w = some r → eOk p l e R s m args below meth c E A X r M pc ls st w) {n : Fin 2} (hd : decode (eByt M) pc = .ok (.lconst n, 1)) (q : J M (pc + 1) ls (.inr (.inr (.inl ((n : Nat) : Int))) :: st) w = some r) : eOk p l e R s m args below meth c E A X r M pc ls st w :=
  o_push (x := .long (Int64.ofNat (n : Nat))) hJ (fun _ => by show _ = _; rfl) q (fun k => lv_lconst hF.1 hF.2.2.1 hd rfl k)
theorem o_null (hF : eFr p l R s m args meth c E A M) (hJ : ∀ (pc : Nat) (ls : eL) (st : List eV) (w : eW), J M pc ls st w = some r → eOk p l e R s m args below meth c E A X r M pc ls st w) (hd : decode (eByt M) pc = .ok (.aconst_null, 1)) (q : J M (pc + 1) ls (.inr (.inl none) :: st) w = some r) : eOk p l e R s m args below meth c E A X r M pc ls st w :=
  o_push (v := .inr (.inl none)) (x := .null) hJ (fun _ => rfl) q (fun k => lv_null hF.1 hF.2.2.1 hd k)
theorem o_un {f : Int → Int} {g : Int32 → Int32} {x : Int} {st : List eV} (hJ : ∀ (pc : Nat) (ls : eL) (st : List eV) (w : eW), J M pc ls st w = some r → eOk p l e R s m args below meth c E A X r M pc ls st w) (hfg : ∀ x, Int32.ofInt (f x) = g (Int32.ofInt x)) (q : J M (pc + 1) ls (.inl (f x) :: st) w = some r)
    (row : ∀ {H : Heap} {locs : List Loc} {kc ks : Nat} {Q : State → Prop} {lsm : Array Slot} {x : Int32} {rest : List Value}, W p l e R s m args below meth c H locs kc ks Q (F0 m (pc + 1) lsm (.int (g x) :: rest)) → W p l e R s m args below meth c H locs kc ks Q (F0 m pc lsm (.int x :: rest))) : eOk p l e R s m args below meth c E A X r M pc ls (.inl x :: st) w := by
  refine o_step (hJ _ _ _ _ q) (fun β H locs lsm stv kc ks Q hl hs k => ?_)
  obtain ⟨_, _, rfl, rfl, hs1⟩ := sR_inv hs
  exact row (k _ _ hl ⟨by show _ = _; rw [hfg], hs1⟩)
theorem o_i2b (hF : eFr p l R s m args meth c E A M) (hJ : ∀ (pc : Nat) (ls : eL) (st : List eV) (w : eW), J M pc ls st w = some r → eOk p l e R s m args below meth c E A X r M pc ls st w) (hd : decode (eByt M) pc = .ok (.i2b, 1)) {x : Int} {st : List eV} (q : J M (pc + 1) ls (.inl (bI2b x) :: st) w = some r) : eOk p l e R s m args below meth c E A X r M pc ls (.inl x :: st) w :=
  o_un (g := fun x => x.toInt8.toInt32) hJ (fun x => ofInt_toInt' _) q (fun k => lv_i2b hF.1 hF.2.2.1 hd rfl k)
theorem o_i2l (hF : eFr p l R s m args meth c E A M) (hJ : ∀ (pc : Nat) (ls : eL) (st : List eV) (w : eW), J M pc ls st w = some r → eOk p l e R s m args below meth c E A X r M pc ls st w) (hd : decode (eByt M) pc = .ok (.i2l, 1)) {x : Int} {st : List eV} (q : J M (pc + 1) ls (.inr (.inr (.inl (wr x))) :: st) w = some r) : eOk p l e R s m args below meth c E A X r M pc ls (.inl x :: st) w := by
  refine o_step (hJ _ _ _ _ q) (fun β H locs lsm stv kc ks Q hl hs k => ?_)
  obtain ⟨_, _, rfl, rfl, hs1⟩ := sR_inv hs
  exact lv_i2l hF.1 hF.2.2.1 hd rfl (k _ _ hl ⟨by show _ = _; rw [← wr_of]; congr 1, hs1⟩)
theorem o_i2f (hF : eFr p l R s m args meth c E A M) (hJ : ∀ (pc : Nat) (ls : eL) (st : List eV) (w : eW), J M pc ls st w = some r → eOk p l e R s m args below meth c E A X r M pc ls st w) (hd : decode (eByt M) pc = .ok (.i2f, 1)) {x : Int} {st : List eV} (q : J M (pc + 1) ls (.inr (.inr (.inr (.inl (bI2f x)))) :: st) w = some r) : eOk p l e R s m args below meth c E A X r M pc ls (.inl x :: st) w := by
  refine o_step (hJ _ _ _ _ q) (fun β H locs lsm stv kc ks Q hl hs k => ?_)
  obtain ⟨_, _, rfl, rfl, hs1⟩ := sR_inv hs
  exact lv_i2f hF.1 hF.2.2.1 hd (k _ _ hl ⟨rfl, hs1⟩)
theorem o_i2d (hF : eFr p l R s m args meth c E A M) (hJ : ∀ (pc : Nat) (ls : eL) (st : List eV) (w : eW), J M pc ls st w = some r → eOk p l e R s m args below meth c E A X r M pc ls st w) (hd : decode (eByt M) pc = .ok (.i2d, 1)) {x : Int} {st : List eV} (q : J M (pc + 1) ls (.inr (.inr (.inr (.inr (.inl (bI2d x))))) :: st) w = some r) : eOk p l e R s m args below meth c E A X r M pc ls (.inl x :: st) w := by
  refine o_step (hJ _ _ _ _ q) (fun β H locs lsm stv kc ks Q hl hs k => ?_)
  obtain ⟨_, _, rfl, rfl, hs1⟩ := sR_inv hs
  exact lv_i2d hF.1 hF.2.2.1 hd (k _ _ hl ⟨rfl, hs1⟩)
theorem o_f2d (hF : eFr p l R s m args meth c E A M) (hJ : ∀ (pc : Nat) (ls : eL) (st : List eV) (w : eW), J M pc ls st w = some r → eOk p l e R s m args below meth c E A X r M pc ls st w) (hd : decode (eByt M) pc = .ok (.f2d, 1)) {x : UInt32} {st : List eV} (hn : FP.f2d x &&& 0x7fffffffffffffff ≤ 0x7ff0000000000000) (q : J M (pc + 1) ls (.inr (.inr (.inr (.inr (.inl (FP.f2d x))))) :: st) w = some r) : eOk p l e R s m args below meth c E A X r M pc ls (.inr (.inr (.inr (.inl x))) :: st) w := by
  refine o_step (hJ _ _ _ _ q) (fun β H locs lsm stv kc ks Q hl hs k => ?_)
  obtain ⟨_, _, rfl, rfl, hs1⟩ := sR_inv hs
  exact lv_f2d hF.1 hF.2.2.1 hd hn (k _ _ hl ⟨rfl, hs1⟩)
theorem o_fdiv (hF : eFr p l R s m args meth c E A M) (hJ : ∀ (pc : Nat) (ls : eL) (st : List eV) (w : eW), J M pc ls st w = some r → eOk p l e R s m args below meth c E A X r M pc ls st w) (hd : decode (eByt M) pc = .ok (.fdiv, 1)) {x y : UInt32} {st : List eV} (hn : FP.fdiv x y &&& 0x7fffffff ≤ 0x7f800000) (q : J M (pc + 1) ls (.inr (.inr (.inr (.inl (FP.fdiv x y)))) :: st) w = some r) : eOk p l e R s m args below meth c E A X r M pc ls (.inr (.inr (.inr (.inl y))) :: .inr (.inr (.inr (.inl x))) :: st) w := by
  refine o_step (hJ _ _ _ _ q) (fun β H locs lsm stv kc ks Q hl hs k => ?_)
  obtain ⟨_, _, rfl, rfl, hs1⟩ := sR_inv hs
  obtain ⟨_, _, rfl, rfl, hs2⟩ := sR_inv hs1
  exact lv_fdiv hF.1 hF.2.2.1 hd hn (k _ _ hl ⟨rfl, hs2⟩)
theorem o_ddiv (hF : eFr p l R s m args meth c E A M) (hJ : ∀ (pc : Nat) (ls : eL) (st : List eV) (w : eW), J M pc ls st w = some r → eOk p l e R s m args below meth c E A X r M pc ls st w) (hd : decode (eByt M) pc = .ok (.ddiv, 1)) {x y : UInt64} {st : List eV} (hn : FP.ddiv x y &&& 0x7fffffffffffffff ≤ 0x7ff0000000000000) (q : J M (pc + 1) ls (.inr (.inr (.inr (.inr (.inl (FP.ddiv x y))))) :: st) w = some r) : eOk p l e R s m args below meth c E A X r M pc ls (.inr (.inr (.inr (.inr (.inl y)))) :: .inr (.inr (.inr (.inr (.inl x)))) :: st) w := by
  refine o_step (hJ _ _ _ _ q) (fun β H locs lsm stv kc ks Q hl hs k => ?_)
  obtain ⟨_, _, rfl, rfl, hs1⟩ := sR_inv hs
  obtain ⟨_, _, rfl, rfl, hs2⟩ := sR_inv hs1
  exact lv_ddiv hF.1 hF.2.2.1 hd hn (k _ _ hl ⟨rfl, hs2⟩)
theorem o_dcmp (hF : eFr p l R s m args meth c E A M) (hJ : ∀ (pc : Nat) (ls : eL) (st : List eV) (w : eW), J M pc ls st w = some r → eOk p l e R s m args below meth c E A X r M pc ls st w) {op : CmpOp} (hd : decode (eByt M) pc = .ok (.dcmp op, 1)) {x y : UInt64} {st : List eV} (q : J M (pc + 1) ls (.inl (bDcmp x y op) :: st) w = some r) : eOk p l e R s m args below meth c E A X r M pc ls (.inr (.inr (.inr (.inr (.inl y)))) :: .inr (.inr (.inr (.inr (.inl x)))) :: st) w := by
  refine o_step (hJ _ _ _ _ q) (fun β H locs lsm stv kc ks Q hl hs k => ?_)
  obtain ⟨_, _, rfl, rfl, hs1⟩ := sR_inv hs
  obtain ⟨_, _, rfl, rfl, hs2⟩ := sR_inv hs1
  exact lv_dcmp hF.1 hF.2.2.1 hd (k _ _ hl ⟨by show _ = _; unfold bDcmp; rw [ofInt_toInt'], hs2⟩)
theorem o_goto (hF : eFr p l R s m args meth c E A M) (hJ : ∀ (pc : Nat) (ls : eL) (st : List eV) (w : eW), J M pc ls st w = some r → eOk p l e R s m args below meth c E A X r M pc ls st w) {off : Int} (hd : decode (eByt M) pc = .ok (.goto off, 3)) (ht : (pc : Int) + off = (a : Int)) (q : J M a ls st w = some r) : eOk p l e R s m args below meth c E A X r M pc ls st w := by
  refine o_step (hJ _ _ _ _ q) (fun β H locs lsm stv kc ks Q hl hs k => ?_)
  exact lv_goto hF.1 hF.2.2.1 hd ht (k _ _ hl hs)
theorem o_dup (hF : eFr p l R s m args meth c E A M) (hJ : ∀ (pc : Nat) (ls : eL) (st : List eV) (w : eW), J M pc ls st w = some r → eOk p l e R s m args below meth c E A X r M pc ls st w) {v : eV} {st : List eV} (hd : decode (eByt M) pc = .ok (.dup, 1)) (hv : eCat v = 1) (q : J M (pc + 1) ls (v :: v :: st) w = some r) : eOk p l e R s m args below meth c E A X r M pc ls (v :: st) w := by
  refine o_step (hJ _ _ _ _ q) (fun β H locs lsm stv kc ks Q hl hs k => ?_)
  obtain ⟨x, _, rfl, hx, hs1⟩ := sR_inv hs
  exact lv_dup hF.1 hF.2.2.1 hd ((vR_cat hx).trans hv) (k _ _ hl ⟨hx, hx, hs1⟩)
theorem o_pop (hF : eFr p l R s m args meth c E A M) (hJ : ∀ (pc : Nat) (ls : eL) (st : List eV) (w : eW), J M pc ls st w = some r → eOk p l e R s m args below meth c E A X r M pc ls st w) {v : eV} {st : List eV} (hd : decode (eByt M) pc = .ok (.pop, 1)) (hv : eCat v = 1) (q : J M (pc + 1) ls st w = some r) : eOk p l e R s m args below meth c E A X r M pc ls (v :: st) w := by
  refine o_step (hJ _ _ _ _ q) (fun β H locs lsm stv kc ks Q hl hs k => ?_)
  obtain ⟨x, _, rfl, hx, hs1⟩ := sR_inv hs
  exact lv_pop hF.1 hF.2.2.1 hd ((vR_cat hx).trans hv) (k _ _ hl hs1)
end Sim
