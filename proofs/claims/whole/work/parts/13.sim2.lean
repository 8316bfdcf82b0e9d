/-! Each instruction of the pure machine is the JVM's: locals, branches, constants of the pool. -/
theorem eKn0 {E : eE} {α : List Nat} {v : eV} {x : Value} (h : Nat.beq (eKn v) 0 = true) (hv : vR E α v x) : ∃ z, v = .inl z ∧ x = .int (Int32.ofInt z) := by
  match v, h, hv with
  | .inl z, _, hv => exact ⟨z, rfl, hv⟩
  | .inr (.inl _), h, _ => cases h
  | .inr (.inr (.inl _)), h, _ => cases h
  | .inr (.inr (.inr (.inl _))), h, _ => cases h
  | .inr (.inr (.inr (.inr (.inl _)))), h, _ => cases h
  | .inr (.inr (.inr (.inr (.inr _)))), h, _ => cases h
theorem eKn1 {E : eE} {α : List Nat} {v : eV} {x : Value} (h : Nat.beq (eKn v) 1 = true) (hv : vR E α v x) : x = .null ∨ ∃ q, x = .ref q := by
  match v, h, hv with
  | .inl z, h, _ => cases h
  | .inr (.inl none), _, hv => exact Or.inl hv
  | .inr (.inl (some 0)), _, hv => exact Or.inr ⟨_, hv⟩
  | .inr (.inl (some (k + 1))), _, hv => obtain ⟨q, -, h2⟩ := hv; exact Or.inr ⟨q, h2⟩
  | .inr (.inr (.inl _)), h, _ => cases h
  | .inr (.inr (.inr (.inl _))), h, _ => cases h
  | .inr (.inr (.inr (.inr (.inl _)))), h, _ => cases h
  | .inr (.inr (.inr (.inr (.inr _)))), _, hv => exact Or.inr ⟨_, hv⟩
theorem eKn4 {E : eE} {α : List Nat} {v : eV} {x : Value} (h : Nat.beq (eKn v) 4 = true) (hv : vR E α v x) : ∃ z, x = .double z := by
  match v, h, hv with
  | .inl z, h, _ => cases h
  | .inr (.inl _), h, _ => cases h
  | .inr (.inr (.inl _)), h, _ => cases h
  | .inr (.inr (.inr (.inl _))), h, _ => cases h
  | .inr (.inr (.inr (.inr (.inl z)))), _, hv => exact ⟨z, hv⟩
  | .inr (.inr (.inr (.inr (.inr _)))), h, _ => cases h
section Sim2
variable {p : Program} {l : Launch} {e : Env} {R : Room} {s : State} {m : MethodId} {args : Array Value} {below : List Frame} {meth : Method} {c : Code} {E : eE} {A : Nat → Prop} {X : List Nat × (Nat × Nat)} {r : (Option eV ⊕ Nat) × eW} {M pc len i a b : Nat} {ls : eL} {st : List eV} {w : eW} {J : eFn}
theorem o_loadK {k : Nat} (hJ : ∀ (pc : Nat) (ls : eL) (st : List eV) (w : eW), J M pc ls st w = some r → eOk p l e R s m args below meth c E A X r M pc ls st w) (q : eLoadK J k M pc len i ls st w = some r)
    (row : ∀ {H : Heap} {locs : List Loc} {kc ks : Nat} {Q : State → Prop} {lsm : Array Slot} {rest : List Value} {α : List Nat} {v : eV} {x : Value}, Nat.beq (eKn v) k = true → vR E α v x → lsm[i]? = some (.val x) → W p l e R s m args below meth c H locs kc ks Q (F0 m (pc + len) lsm (x :: rest)) → W p l e R s m args below meth c H locs kc ks Q (F0 m pc lsm rest)) : eOk p l e R s m args below meth c E A X r M pc ls st w := by
  unfold eLoadK at q; split at q
  · rename_i v hv
    simp only [Bool.cond_eq_ite] at q; split at q
    · rename_i hk
      refine o_step (hJ _ _ _ _ q) (fun β H locs lsm stv kc ks Q hl hs k => ?_)
      obtain ⟨x, hx, hr⟩ := hl.2.2 i v hv
      exact row hk hr hx (k _ _ hl ⟨hr, hs⟩)
    · cases q
  · cases q
theorem o_iload (hF : eFr p l R s m args meth c E A M) (hJ : ∀ (pc : Nat) (ls : eL) (st : List eV) (w : eW), J M pc ls st w = some r → eOk p l e R s m args below meth c E A X r M pc ls st w) (hd : decode (eByt M) pc = .ok (.iload i, 2)) (q : eLoadK J 0 M pc 2 i ls st w = some r) : eOk p l e R s m args below meth c E A X r M pc ls st w :=
  o_loadK hJ q (fun hk hv hx k => by obtain ⟨z, -, rfl⟩ := eKn0 hk hv; exact lv_iload hF.1 hF.2.2.1 hd hx k)
theorem o_iload_n {j : Fin 4} (hF : eFr p l R s m args meth c E A M) (hJ : ∀ (pc : Nat) (ls : eL) (st : List eV) (w : eW), J M pc ls st w = some r → eOk p l e R s m args below meth c E A X r M pc ls st w) (hd : decode (eByt M) pc = .ok (.iload_n j, 1)) (q : eLoadK J 0 M pc 1 j ls st w = some r) : eOk p l e R s m args below meth c E A X r M pc ls st w :=
  o_loadK hJ q (fun hk hv hx k => by obtain ⟨z, -, rfl⟩ := eKn0 hk hv; exact lv_iload_n hF.1 hF.2.2.1 hd rfl hx k)
theorem o_aload (hF : eFr p l R s m args meth c E A M) (hJ : ∀ (pc : Nat) (ls : eL) (st : List eV) (w : eW), J M pc ls st w = some r → eOk p l e R s m args below meth c E A X r M pc ls st w) (hd : decode (eByt M) pc = .ok (.aload i, 2)) (q : eLoadK J 1 M pc 2 i ls st w = some r) : eOk p l e R s m args below meth c E A X r M pc ls st w :=
  o_loadK hJ q (fun hk hv hx k => by
    rcases eKn1 hk hv with rfl | ⟨z, rfl⟩
    · exact lv_aloadN hF.1 hF.2.2.1 hd hx k
    · exact lv_aload hF.1 hF.2.2.1 hd hx k)
theorem o_aload_n {j : Fin 4} (hF : eFr p l R s m args meth c E A M) (hJ : ∀ (pc : Nat) (ls : eL) (st : List eV) (w : eW), J M pc ls st w = some r → eOk p l e R s m args below meth c E A X r M pc ls st w) (hd : decode (eByt M) pc = .ok (.aload_n j, 1)) (q : eLoadK J 1 M pc 1 j ls st w = some r) : eOk p l e R s m args below meth c E A X r M pc ls st w :=
  o_loadK hJ q (fun hk hv hx k => by
    rcases eKn1 hk hv with rfl | ⟨z, rfl⟩
    · exact lv_aload_nN hF.1 hF.2.2.1 hd rfl hx k
    · exact lv_aload_n hF.1 hF.2.2.1 hd rfl hx k)
theorem o_dload (hF : eFr p l R s m args meth c E A M) (hJ : ∀ (pc : Nat) (ls : eL) (st : List eV) (w : eW), J M pc ls st w = some r → eOk p l e R s m args below meth c E A X r M pc ls st w) (hd : decode (eByt M) pc = .ok (.dload i, 2)) (q : eLoadK J 4 M pc 2 i ls st w = some r) : eOk p l e R s m args below meth c E A X r M pc ls st w :=
  o_loadK hJ q (fun hk hv hx k => by obtain ⟨z, rfl⟩ := eKn4 hk hv; exact lv_dload hF.1 hF.2.2.1 hd hx k)
theorem o_storeK {k : Nat} (hJ : ∀ (pc : Nat) (ls : eL) (st : List eV) (w : eW), J M pc ls st w = some r → eOk p l e R s m args below meth c E A X r M pc ls st w) (q : eStoreK J k M pc len i ls st w = some r)
    (row : ∀ {H : Heap} {locs : List Loc} {kc ks : Nat} {Q : State → Prop} {lsm : Array Slot} {rest : List Value} {α : List Nat} {v : eV} {x : Value}, Nat.beq (eKn v) k = true → vR E α v x → lv_has lsm (eMaxL M) (eAllL lsm) →
      (∀ ls' : Array Slot, lv_has ls' (eMaxL M) ((i, x) :: (eAllL lsm).filter (fun q => !(q.1 == i) && !(q.1 + 1 == i && q.2.category == 2))) → W p l e R s m args below meth c H locs kc ks Q (F0 m (pc + len) ls' rest)) → W p l e R s m args below meth c H locs kc ks Q (F0 m pc lsm (x :: rest))) : eOk p l e R s m args below meth c E A X r M pc ls st w := by
  unfold eStoreK at q; split at q
  · rename_i v st
    simp only [Bool.cond_eq_ite, Bool.and_eq_true] at q; split at q
    · rename_i hk
      refine o_step (hJ _ _ _ _ q) (fun β H locs lsm stv kc ks Q hl hs k => ?_)
      obtain ⟨x, ys, rfl, hr, hs1⟩ := sR_inv hs
      exact row hk.1 hr (eAllL_has hl) (fun ls' h' => k _ _ (lv_put hl h' (fun u hu => by cases hu; exact hr) (eAllL_keep hk.2 hl)) hs1)
    · cases q
  · cases q
theorem o_istore (hF : eFr p l R s m args meth c E A M) (hJ : ∀ (pc : Nat) (ls : eL) (st : List eV) (w : eW), J M pc ls st w = some r → eOk p l e R s m args below meth c E A X r M pc ls st w) (hd : decode (eByt M) pc = .ok (.istore i, 2)) (hi : i < eMaxL M) (q : eStoreK J 0 M pc 2 i ls st w = some r) : eOk p l e R s m args below meth c E A X r M pc ls st w :=
  o_storeK hJ q (fun hk hv h k => by obtain ⟨z, -, rfl⟩ := eKn0 hk hv; exact lv_istore hF.1 hF.2.2.1 hd h hi rfl k)
theorem o_istore_n {j : Fin 4} (hF : eFr p l R s m args meth c E A M) (hJ : ∀ (pc : Nat) (ls : eL) (st : List eV) (w : eW), J M pc ls st w = some r → eOk p l e R s m args below meth c E A X r M pc ls st w) (hd : decode (eByt M) pc = .ok (.istore_n j, 1)) (hi : (j : Nat) < eMaxL M) (q : eStoreK J 0 M pc 1 j ls st w = some r) : eOk p l e R s m args below meth c E A X r M pc ls st w :=
  o_storeK hJ q (fun hk hv h k => by obtain ⟨z, -, rfl⟩ := eKn0 hk hv; exact lv_istore_n hF.1 hF.2.2.1 hd rfl h hi rfl k)
theorem o_astore (hF : eFr p l R s m args meth c E A M) (hJ : ∀ (pc : Nat) (ls : eL) (st : List eV) (w : eW), J M pc ls st w = some r → eOk p l e R s m args below meth c E A X r M pc ls st w) (hd : decode (eByt M) pc = .ok (.astore i, 2)) (hi : i < eMaxL M) (q : eStoreK J 1 M pc 2 i ls st w = some r) : eOk p l e R s m args below meth c E A X r M pc ls st w :=
  o_storeK hJ q (fun hk hv h k => by
    rcases eKn1 hk hv with rfl | ⟨z, rfl⟩
    · exact lv_astoreN hF.1 hF.2.2.1 hd h hi rfl k
    · exact lv_astore hF.1 hF.2.2.1 hd h hi rfl k)
theorem o_astore_n {j : Fin 4} (hF : eFr p l R s m args meth c E A M) (hJ : ∀ (pc : Nat) (ls : eL) (st : List eV) (w : eW), J M pc ls st w = some r → eOk p l e R s m args below meth c E A X r M pc ls st w) (hd : decode (eByt M) pc = .ok (.astore_n j, 1)) (hi : (j : Nat) < eMaxL M) (q : eStoreK J 1 M pc 1 j ls st w = some r) : eOk p l e R s m args below meth c E A X r M pc ls st w :=
  o_storeK hJ q (fun hk hv h k => by
    rcases eKn1 hk hv with rfl | ⟨z, rfl⟩
    · exact lv_astore_nN hF.1 hF.2.2.1 hd rfl h hi rfl k
    · exact lv_astore_n hF.1 hF.2.2.1 hd rfl h hi rfl k)
theorem o_dstore (hF : eFr p l R s m args meth c E A M) (hJ : ∀ (pc : Nat) (ls : eL) (st : List eV) (w : eW), J M pc ls st w = some r → eOk p l e R s m args below meth c E A X r M pc ls st w) (hd : decode (eByt M) pc = .ok (.dstore i, 2)) (hi : i + 1 < eMaxL M) (q : eStoreD J M pc 2 i ls st w = some r) : eOk p l e R s m args below meth c E A X r M pc ls st w := by
  unfold eStoreD at q; split at q
  · rename_i v st
    simp only [Bool.cond_eq_ite] at q; split at q
    · rename_i hk
      refine o_step (hJ _ _ _ _ q) (fun β H locs lsm stv kc ks Q hl hs k => ?_)
      obtain ⟨_, _, rfl, rfl, hs1⟩ := sR_inv hs
      refine lv_dstore hF.1 hF.2.2.1 hd (eAllL_has hl) hi rfl (fun ls' h' => k _ _ ⟨h'.1, h'.2.1, fun j u hj => ?_⟩ hs1)
      rcases ePut_nth _ _ _ _ _ hj with ⟨-, h2⟩ | ⟨h1, h2⟩
      · cases h2
      · rcases ePut_nth _ _ _ _ _ h2 with ⟨rfl, h3⟩ | ⟨h3, h4⟩
        · cases h3
          exact ⟨_, h'.2.2 _ List.mem_cons_self, rfl⟩
        · obtain ⟨x, hx, hr⟩ := hl.2.2 j u h4
          refine ⟨x, h'.2.2 (j, x) (List.mem_cons_of_mem _ (List.mem_filter.mpr ⟨eAllL_mem.mpr hx, ?_⟩)), hr⟩
          by_cases h : j + 1 = i
          · have := eBelow_cat hk hl h4 hx h
            simp [h1, h3, this]
          · simp [h1, h3, h]
    · cases q
  · cases q
theorem o_iinc {n x : Int} (hF : eFr p l R s m args meth c E A M) (hJ : ∀ (pc : Nat) (ls : eL) (st : List eV) (w : eW), J M pc ls st w = some r → eOk p l e R s m args below meth c E A X r M pc ls st w) (hd : decode (eByt M) pc = .ok (.iinc i n, 3)) (hi : i < eMaxL M) (hx : eNth ls i = some (some (.inl x))) (hb : eBelow ls i = true) (q : J M (pc + 3) (ePut ls i (some (.inl (x + n)))) st w = some r) : eOk p l e R s m args below meth c E A X r M pc ls st w := by
  refine o_step (hJ _ _ _ _ q) (fun β H locs lsm stv kc ks Q hl hs k => ?_)
  obtain ⟨_, hy, rfl⟩ := hl.2.2 i _ hx
  obtain ⟨j, hj⟩ := List.mem_iff_getElem?.mp (eAllL_mem.mpr hy)
  exact lv_iinc hF.1 hF.2.2.1 hd (eAllL_has hl) hj rfl hi rfl (fun ls' h' => k _ _ (lv_put hl h' (fun u hu => by cases hu; show _ = _; rw [Int32.ofInt_add]) (eAllL_keep hb hl)) hs)
theorem wr_le_iff (x y : Int) : Int32.ofInt x ≤ Int32.ofInt y ↔ ¬ wr y < wr x := by rw [Int32.le_iff_toInt_le, wr_of, wr_of]; omega
theorem o_br {cd : ClassFile.Cond} {off : Int} (hF : eFr p l R s m args meth c E A M) (hJ : ∀ (pc : Nat) (ls : eL) (st : List eV) (w : eW), J M pc ls st w = some r → eOk p l e R s m args below meth c E A X r M pc ls st w) (hd : decode (eByt M) pc = .ok (.ifCond cd off, 3)) (ht : (pc : Int) + off = (a : Int)) (q : eBr J M pc a cd ls st w = some r) : eOk p l e R s m args below meth c E A X r M pc ls st w := by
  unfold eBr at q; split at q
  · rename_i x st
    have z0 : (0 : Int32) = Int32.ofInt 0 := rfl
    cases cd <;> (unfold eIf at q; dsimp only at q; split at q <;> rename_i hc <;> refine o_step (hJ _ _ _ _ q) (fun β H locs lsm stv kc ks Q hl hs k => ?_) <;> (obtain ⟨_, _, rfl, rfl, hs1⟩ := sR_inv hs))
    · exact lv_if_eq hF.1 hF.2.2.1 hd ht (fun _ => k _ _ hl hs1) (fun h => absurd ((wr_eq_iff x 0).mpr hc) h)
    · exact lv_if_eq hF.1 hF.2.2.1 hd ht (fun h => absurd ((wr_eq_iff x 0).mp h) hc) (fun _ => k _ _ hl hs1)
    · exact lv_if_ne hF.1 hF.2.2.1 hd ht (fun h => absurd ((wr_eq_iff x 0).mpr hc) h) (fun _ => k _ _ hl hs1)
    · exact lv_if_ne hF.1 hF.2.2.1 hd ht (fun _ => k _ _ hl hs1) (fun h => absurd ((wr_eq_iff x 0).mp h) hc)
    · exact lv_if_lt hF.1 hF.2.2.1 hd ht (fun _ => k _ _ hl hs1) (fun h => absurd ((wr_lt_iff x 0).mpr hc) h)
    · exact lv_if_lt hF.1 hF.2.2.1 hd ht (fun h => absurd ((wr_lt_iff x 0).mp h) hc) (fun _ => k _ _ hl hs1)
    · exact lv_if_ge hF.1 hF.2.2.1 hd ht (fun h => absurd hc ((wr_le_iff 0 x).mp h)) (fun _ => k _ _ hl hs1)
    · exact lv_if_ge hF.1 hF.2.2.1 hd ht (fun _ => k _ _ hl hs1) (fun h => absurd ((wr_le_iff 0 x).mpr hc) h)
    · exact lv_if_gt hF.1 hF.2.2.1 hd ht (fun _ => k _ _ hl hs1) (fun h => absurd ((wr_lt_iff 0 x).mpr hc) h)
    · exact lv_if_gt hF.1 hF.2.2.1 hd ht (fun h => absurd ((wr_lt_iff 0 x).mp h) hc) (fun _ => k _ _ hl hs1)
    · exact lv_if_le hF.1 hF.2.2.1 hd ht (fun h => absurd hc ((wr_le_iff x 0).mp h)) (fun _ => k _ _ hl hs1)
    · exact lv_if_le hF.1 hF.2.2.1 hd ht (fun _ => k _ _ hl hs1) (fun h => absurd ((wr_le_iff x 0).mpr hc) h)
  · cases q
theorem o_br2 {cd : ClassFile.Cond} {off : Int} (hF : eFr p l R s m args meth c E A M) (hJ : ∀ (pc : Nat) (ls : eL) (st : List eV) (w : eW), J M pc ls st w = some r → eOk p l e R s m args below meth c E A X r M pc ls st w) (hd : decode (eByt M) pc = .ok (.if_icmp cd off, 3)) (ht : (pc : Int) + off = (a : Int)) (q : eBr2 J M pc a cd ls st w = some r) : eOk p l e R s m args below meth c E A X r M pc ls st w := by
  unfold eBr2 at q; split at q
  · rename_i y x st
    cases cd <;> (unfold eIf at q; dsimp only at q; split at q <;> rename_i hc <;> refine o_step (hJ _ _ _ _ q) (fun β H locs lsm stv kc ks Q hl hs k => ?_) <;> (obtain ⟨_, _, rfl, rfl, hs1⟩ := sR_inv hs; obtain ⟨_, _, rfl, rfl, hs2⟩ := sR_inv hs1))
    · exact lv_icmp_eq hF.1 hF.2.2.1 hd ht (fun _ => k _ _ hl hs2) (fun h => absurd ((wr_eq_iff x y).mpr hc) h)
    · exact lv_icmp_eq hF.1 hF.2.2.1 hd ht (fun h => absurd ((wr_eq_iff x y).mp h) hc) (fun _ => k _ _ hl hs2)
    · exact lv_icmp_ne hF.1 hF.2.2.1 hd ht (fun h => absurd ((wr_eq_iff x y).mpr hc) h) (fun _ => k _ _ hl hs2)
    · exact lv_icmp_ne hF.1 hF.2.2.1 hd ht (fun _ => k _ _ hl hs2) (fun h => absurd ((wr_eq_iff x y).mp h) hc)
    · exact lv_icmp_lt hF.1 hF.2.2.1 hd ht (fun _ => k _ _ hl hs2) (fun h => absurd ((wr_lt_iff x y).mpr hc) h)
    · exact lv_icmp_lt hF.1 hF.2.2.1 hd ht (fun h => absurd ((wr_lt_iff x y).mp h) hc) (fun _ => k _ _ hl hs2)
    · exact lv_icmp_ge hF.1 hF.2.2.1 hd ht (fun h => absurd hc ((wr_le_iff y x).mp h)) (fun _ => k _ _ hl hs2)
    · exact lv_icmp_ge hF.1 hF.2.2.1 hd ht (fun _ => k _ _ hl hs2) (fun h => absurd ((wr_le_iff y x).mpr hc) h)
    · exact lv_icmp_gt hF.1 hF.2.2.1 hd ht (fun _ => k _ _ hl hs2) (fun h => absurd ((wr_lt_iff y x).mpr hc) h)
    · exact lv_icmp_gt hF.1 hF.2.2.1 hd ht (fun h => absurd ((wr_lt_iff y x).mp h) hc) (fun _ => k _ _ hl hs2)
    · exact lv_icmp_le hF.1 hF.2.2.1 hd ht (fun h => absurd hc ((wr_le_iff x y).mp h)) (fun _ => k _ _ hl hs2)
    · exact lv_icmp_le hF.1 hF.2.2.1 hd ht (fun _ => k _ _ hl hs2) (fun h => absurd ((wr_le_iff x y).mpr hc) h)
  · cases q
theorem o_ifnonnull {off : Int} (hF : eFr p l R s m args meth c E A M) (hJ : ∀ (pc : Nat) (ls : eL) (st : List eV) (w : eW), J M pc ls st w = some r → eOk p l e R s m args below meth c E A X r M pc ls st w) (hd : decode (eByt M) pc = .ok (.ifnonnull off, 3)) (ht : (pc : Int) + off = (a : Int)) (q : eBrN J M pc a false ls st w = some r) : eOk p l e R s m args below meth c E A X r M pc ls st w := by
  unfold eBrN at q; split at q
  · refine o_step (hJ _ _ _ _ q) (fun β H locs lsm stv kc ks Q hl hs k => ?_)
    obtain ⟨_, _, rfl, rfl, hs1⟩ := sR_inv hs
    exact lv_ifnonnullN hF.1 hF.2.2.1 hd (k _ _ hl hs1)
  · rename_i o st
    refine o_step (hJ _ _ _ _ q) (fun β H locs lsm stv kc ks Q hl hs k => ?_)
    obtain ⟨x, _, rfl, hx, hs1⟩ := sR_inv hs
    rcases eKn1 (v := .inr (.inl (some o))) rfl hx with rfl | ⟨z, rfl⟩
    · cases o with
      | zero => cases hx
      | succ o => obtain ⟨_, _, h⟩ := hx; cases h
    · exact lv_ifnonnull hF.1 hF.2.2.1 hd ht (k _ _ hl hs1)
  · cases q
theorem o_ifnull {off : Int} (hF : eFr p l R s m args meth c E A M) (hJ : ∀ (pc : Nat) (ls : eL) (st : List eV) (w : eW), J M pc ls st w = some r → eOk p l e R s m args below meth c E A X r M pc ls st w) (hd : decode (eByt M) pc = .ok (.ifnull off, 3)) (ht : (pc : Int) + off = (a : Int)) (q : eBrN J M pc a true ls st w = some r) : eOk p l e R s m args below meth c E A X r M pc ls st w := by
  unfold eBrN at q; split at q
  · refine o_step (hJ _ _ _ _ q) (fun β H locs lsm stv kc ks Q hl hs k => ?_)
    obtain ⟨_, _, rfl, rfl, hs1⟩ := sR_inv hs
    exact lv_ifnullN hF.1 hF.2.2.1 hd ht (k _ _ hl hs1)
  · rename_i o st
    refine o_step (hJ _ _ _ _ q) (fun β H locs lsm stv kc ks Q hl hs k => ?_)
    obtain ⟨x, _, rfl, hx, hs1⟩ := sR_inv hs
    rcases eKn1 (v := .inr (.inl (some o))) rfl hx with rfl | ⟨z, rfl⟩
    · cases o with
      | zero => cases hx
      | succ o => obtain ⟨_, _, h⟩ := hx; cases h
    · exact lv_ifnull hF.1 hF.2.2.1 hd (k _ _ hl hs1)
  · cases q
theorem o_dup2 {v u : eV} {st : List eV} (hF : eFr p l R s m args meth c E A M) (hJ : ∀ (pc : Nat) (ls : eL) (st : List eV) (w : eW), J M pc ls st w = some r → eOk p l e R s m args below meth c E A X r M pc ls st w) (hd : decode (eByt M) pc = .ok (.dup2, 1)) (hv : eCat v = 1) (hu : eCat u = 1) (q : J M (pc + 1) ls (v :: u :: v :: u :: st) w = some r) : eOk p l e R s m args below meth c E A X r M pc ls (v :: u :: st) w := by
  refine o_step (hJ _ _ _ _ q) (fun β H locs lsm stv kc ks Q hl hs k => ?_)
  obtain ⟨x, _, rfl, hx, hs1⟩ := sR_inv hs
  obtain ⟨y, _, rfl, hy, hs2⟩ := sR_inv hs1
  exact lv_dup2_11 hF.1 hF.2.2.1 hd ((vR_cat hx).trans hv) ((vR_cat hy).trans hu) (k _ _ hl ⟨hx, hy, hx, hy, hs2⟩)
theorem o_fconst {n : Fin 3} (hF : eFr p l R s m args meth c E A M) (hJ : ∀ (pc : Nat) (ls : eL) (st : List eV) (w : eW), J M pc ls st w = some r → eOk p l e R s m args below meth c E A X r M pc ls st w) (hd : decode (eByt M) pc = .ok (.fconst n, 1)) (hn : (n : Nat) = 0) (q : J M (pc + 1) ls (.inr (.inr (.inr (.inl FP.fconst0))) :: st) w = some r) : eOk p l e R s m args below meth c E A X r M pc ls st w := by
  obtain rfl : n = 0 := Fin.ext hn
  exact o_push (v := .inr (.inr (.inr (.inl FP.fconst0)))) (x := .float FP.fconst0) hJ (fun _ => rfl) q (fun k => lv_fconst0 hF.1 hF.2.2.1 hd k)
theorem o_dconst {n : Fin 2} (hF : eFr p l R s m args meth c E A M) (hJ : ∀ (pc : Nat) (ls : eL) (st : List eV) (w : eW), J M pc ls st w = some r → eOk p l e R s m args below meth c E A X r M pc ls st w) (hd : decode (eByt M) pc = .ok (.dconst n, 1)) (hn : (n : Nat) = 0) (q : J M (pc + 1) ls (.inr (.inr (.inr (.inr (.inl FP.dconst0)))) :: st) w = some r) : eOk p l e R s m args below meth c E A X r M pc ls st w := by
  obtain rfl : n = 0 := Fin.ext hn
  exact o_push (v := .inr (.inr (.inr (.inr (.inl FP.dconst0))))) (x := .double FP.dconst0) hJ (fun _ => rfl) q (fun k => lv_dconst0 hF.1 hF.2.2.1 hd k)
theorem o_lcmp {x y : Int} {st : List eV} (hF : eFr p l R s m args meth c E A M) (hJ : ∀ (pc : Nat) (ls : eL) (st : List eV) (w : eW), J M pc ls st w = some r → eOk p l e R s m args below meth c E A X r M pc ls st w) (hd : decode (eByt M) pc = .ok (.lcmp, 1)) (q : J M (pc + 1) ls (.inl (bLcmp x y) :: st) w = some r) : eOk p l e R s m args below meth c E A X r M pc ls (.inr (.inr (.inl y)) :: .inr (.inr (.inl x)) :: st) w := by
  refine o_step (hJ _ _ _ _ q) (fun β H locs lsm stv kc ks Q hl hs k => ?_)
  obtain ⟨_, _, rfl, rfl, hs1⟩ := sR_inv hs
  obtain ⟨_, _, rfl, rfl, hs2⟩ := sR_inv hs1
  refine W.lcmp hF.1 hF.2.2.1 hd (k _ _ hl ⟨?_, hs2⟩)
  show Value.int _ = Value.int _
  congr 1
  unfold lg_cmp bLcmp
  simp only [gt_iff_lt, Int64.lt_iff_toInt_lt, ← Int64.toInt_inj, wr64_of]
  by_cases h1 : wr64 x < wr64 y
  · rw [if_neg (by omega), if_neg (by omega), if_pos h1]; rfl
  · by_cases h2 : wr64 x = wr64 y
    · rw [if_neg (by omega), if_pos h2, if_neg h1, if_pos h2]; rfl
    · rw [if_pos (by omega), if_neg h1, if_neg h2]; rfl
theorem o_table {d lo hi : Int} {offs : Array Int} {x : Int} {st : List eV} (hF : eFr p l R s m args meth c E A M) (hJ : ∀ (pc : Nat) (ls : eL) (st : List eV) (w : eW), J M pc ls st w = some r → eOk p l e R s m args below meth c E A X r M pc ls st w) (hd : decode (eByt M) pc = .ok (.tableswitch d lo hi offs, len)) (h0 : 0 ≤ (pc : Int) + d) (ho : ∀ o ∈ offs.toList, 0 ≤ (pc : Int) + o)
    (q : (if wr x < lo ∨ hi < wr x then J M ((pc : Int) + d).toNat ls st w else (match eNth offs.toList (wr x - lo).toNat with
      | some o => J M ((pc : Int) + o).toNat ls st w
      | none => none)) = some r) : eOk p l e R s m args below meth c E A X r M pc ls (.inl x :: st) w := by
  split at q
  · rename_i hc
    refine o_step (hJ _ _ _ _ q) (fun β H locs lsm stv kc ks Q hl hs k => ?_)
    obtain ⟨_, _, rfl, rfl, hs1⟩ := sR_inv hs
    exact lv_tableOut hF.1 hF.2.2.1 hd (by rw [wr_of]; exact hc) (by omega) (k _ _ hl hs1)
  · rename_i hc
    split at q
    · rename_i o hn
      rw [eNth_eq] at hn
      refine o_step (hJ _ _ _ _ q) (fun β H locs lsm stv kc ks Q hl hs k => ?_)
      obtain ⟨_, _, rfl, rfl, hs1⟩ := sR_inv hs
      have hpos := ho o (List.mem_of_getElem? hn)
      exact lv_tableIn hF.1 hF.2.2.1 hd (by rw [wr_of]; omega) (by rw [wr_of]; omega) (by rw [wr_of, ← Array.getElem?_toList]; exact hn) (by omega) (k _ _ hl hs1)
    · cases q
end Sim2
