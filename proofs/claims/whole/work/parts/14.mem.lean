/-! Each instruction of the pure machine is the JVM's: cells. -/
theorem eTs_0 (E : eE) : (eTs E)[0]? = some (E.2.1.1, .int) := rfl
theorem eTs_1 (E : eE) : (eTs E)[1]? = some (E.2.1.2.1, .boolean) := rfl
theorem eTs_2 (E : eE) : (eTs E)[2]? = some (E.2.1.2.2.1, .byte) := rfl
theorem eTs_3 (E : eE) : (eTs E)[3]? = some (E.2.1.2.2.2.1, .long) := rfl
theorem eTs_4 (E : eE) : (eTs E)[4]? = some (E.2.1.2.2.2.2, .object "ShopCross$Window") := rfl
theorem vR_ref {E : eE} {α : List Nat} {k : Nat} {x : Value} (h : vR E α (.inr (.inl (some (k + 1)))) x) : ∃ a, α[k]? = some a ∧ x = .ref a := h
/-- what an int array cell is -/
theorem cR_arr {E : eE} {α : List Nat} {t n : Nat} {f : Nat → Int} {e : va_E} (h : cR E α (.inl (t, (n, f))) e) (ht : t < 3) : ∃ cA ty, (eTs E)[t]? = some (cA, ty) ∧ e = .inl (cA, n, .inl (fun i => Int32.ofInt (f i))) ∧ (t = 1 → ∀ i, fits .boolean (.int (Int32.ofInt (f i))) = true) := by
  rcases h with ⟨rfl, -⟩ | ⟨cA, ty, -, h1, h2, h3⟩
  · omega
  · exact ⟨cA, ty, h1, h2, h3⟩
theorem cR_long {E : eE} {α : List Nat} {n : Nat} {f : Nat → Int} {e : va_E} (h : cR E α (.inl (3, (n, f))) e) : e = .inl (E.2.1.2.2.2.1, n, .inr (.inl (fun i => Int64.ofInt (f i)))) := by
  rcases h with ⟨-, h⟩ | ⟨cA, ty, h, -⟩
  · exact h
  · omega
theorem upd_eUp (f : Nat → Int) (k : Nat) (v : Int) : upd (fun i => Int32.ofInt (f i)) k (Int32.ofInt v) = fun i => Int32.ofInt (eUp f k v i) := by
  funext i
  unfold upd eUp
  by_cases h : i = k
  · subst h; simp
  · simp [h]
theorem updL_eUp (f : Nat → Int) (k : Nat) (v : Int) : vp_updL (fun i => Int64.ofInt (f i)) k (Int64.ofInt v) = fun i => Int64.ofInt (eUp f k v i) := by
  funext i
  unfold vp_updL eUp
  by_cases h : i = k
  · subst h; simp
  · simp [h]
section Mem
variable {p : Program} {l : Launch} {e : Env} {R : Room} {s : State} {m : MethodId} {args : Array Value} {below : List Frame} {meth : Method} {c : Code} {E : eE} {A : Nat → Prop} {X : List Nat × (Nat × Nat)} {r : (Option eV ⊕ Nat) × eW} {M pc len i a b : Nat} {ls : eL} {st : List eV} {w : eW} {J : eFn}
/-- a step that moves no counts, and may change the world at one place -/
theorem o_stepW {pc2 : Nat} {st2 : List eV} {w2 : List eC} (h : eOk p l e R s m args below meth c E A X r M pc2 ls st2 (w2, w.2))
    (k : ∀ (β : List Nat) (ws : va_W) (H : Heap) (locs : List Loc) (lsm : Array Slot) (stv : List Value) (kc ks : Nat) (Q : State → Prop), sR E (X.1 ++ β) st stv → wR E (X.1 ++ β) w.1 ws → va_P E.1 vwCl ws H → va_D A ws → va_S A s.heap H locs →
      (∀ (ws2 : va_W) (H2 : Heap) (locs2 : List Loc) (stv2 : List Value), sR E (X.1 ++ β) st2 stv2 → wR E (X.1 ++ β) w2 ws2 → va_P E.1 vwCl ws2 H2 → va_D A ws2 → va_S A s.heap H2 locs2 → W p l e R s m args below meth c H2 locs2 kc ks Q (F0 m pc2 lsm stv2)) → W p l e R s m args below meth c H locs kc ks Q (F0 m pc lsm stv)) : eOk p l e R s m args below meth c E A X r M pc ls st w := by
  obtain ⟨hle, hk⟩ := h
  exact ⟨hle, fun β ws H locs lsm stv kc ks hl hs hw hP hD hS h1 h2 => k β ws H locs lsm stv kc ks _ hs hw hP hD hS (fun ws2 H2 locs2 stv2 hs2 hw2 hP2 hD2 hS2 => hk β ws2 H2 locs2 lsm stv2 kc ks hl hs2 hw2 hP2 hD2 hS2 h1 h2)⟩
theorem o_iaload (hF : eFr p l R s m args meth c E A M) (hJ : ∀ (pc : Nat) (ls : eL) (st : List eV) (w : eW), J M pc ls st w = some r → eOk p l e R s m args below meth c E A X r M pc ls st w) (hd : decode (eByt M) pc = .ok (.iaload, 1)) (q : eALd J M pc ls st w eOkI (fun x => .inl x) = some r) : eOk p l e R s m args below meth c E A X r M pc ls st w := by
  unfold eALd at q; split at q
  · rename_i i9 k9 st
    split at q
    · rename_i t n f hc
      simp only [Bool.cond_eq_ite] at q; split at q
      · rename_i ht
        split at q
        · rename_i hi
          refine o_stepW (hJ _ _ _ _ q) (fun β ws H locs lsm stv kc ks Q hs hw hP hD hS k => ?_)
          obtain ⟨_, _, rfl, rfl, hs1⟩ := sR_inv hs
          obtain ⟨x, _, rfl, hx, hs2⟩ := sR_inv hs1
          rcases wR_get hw hc with ⟨rfl, h9⟩ | ⟨k1, a1, e1, rfl, ha, he, hr⟩
          · cases h9
            cases hx
            obtain ⟨h1, h2, h3⟩ := hF.2.2.2.2.2.2.2.2.2.2.2.1.2.2.2.2.2.1
            refine va_sld hF.1 hF.2.2.1 hF.2.2.2.2.2.2.2.2.2.2.2.1.2.2.2.2.1 h2 h1 hS (wr_in hi) hd ?_
            refine k ws H locs _ ⟨?_, hs2⟩ hw hP hD hS
            show Value.int _ = Value.int _
            rw [ofInt_toInt', wr_cl _ hi.1]
          · have ht0 : t = 0 := by
              unfold eOkI at ht
              simp only [Bool.or_eq_true, Nat.beq_eq] at ht
              rcases ht with h | h
              · exact h
              · subst h
                rcases hr with ⟨h, -⟩ | ⟨_, _, h, -⟩ <;> omega
            subst ht0
            obtain ⟨a2, ha2, rfl⟩ := vR_ref hx
            cases ha.symm.trans ha2
            obtain ⟨cA, ty, h1, rfl, -⟩ := cR_arr hr (by omega)
            cases (eTs_0 E).symm.trans h1
            refine va_iald hF.1 hF.2.2.1 hF.2.2.2.2.2.2.2.2.2.2.1 hP k1 0 he (eTs_0 E) (wr_in hi) hd ?_
            refine k ws H locs _ ⟨?_, hs2⟩ hw hP hD hS
            show Value.int _ = Value.int _
            rw [wr_cl _ hi.1]
        · cases q
      · cases q
    · cases q
  · cases q
theorem o_baload (hF : eFr p l R s m args meth c E A M) (hJ : ∀ (pc : Nat) (ls : eL) (st : List eV) (w : eW), J M pc ls st w = some r → eOk p l e R s m args below meth c E A X r M pc ls st w) (hd : decode (eByt M) pc = .ok (.baload, 1)) (q : eALd J M pc ls st w eOkB (fun x => .inl x) = some r) : eOk p l e R s m args below meth c E A X r M pc ls st w := by
  unfold eALd at q; split at q
  · rename_i i9 k9 st
    split at q
    · rename_i t n f hc
      simp only [Bool.cond_eq_ite] at q; split at q
      · rename_i ht
        split at q
        · rename_i hi
          refine o_stepW (hJ _ _ _ _ q) (fun β ws H locs lsm stv kc ks Q hs hw hP hD hS k => ?_)
          obtain ⟨_, _, rfl, rfl, hs1⟩ := sR_inv hs
          obtain ⟨x, _, rfl, hx, hs2⟩ := sR_inv hs1
          unfold eOkB at ht
          simp only [Bool.or_eq_true, Nat.beq_eq] at ht
          rcases wR_get hw hc with ⟨rfl, h9⟩ | ⟨k1, a1, e1, rfl, ha, he, hr⟩
          · cases h9
            omega
          · obtain ⟨a2, ha2, rfl⟩ := vR_ref hx
            cases ha.symm.trans ha2
            obtain ⟨cA, ty, h1, rfl, -⟩ := cR_arr hr (by omega)
            have hv : vR E (X.1 ++ β) (.inl (f (wr i9).toNat)) (.int (Int32.ofInt (f (Int32.ofInt i9).toNatClampNeg))) := by
              show Value.int _ = Value.int _
              rw [wr_cl _ hi.1]
            rcases ht with rfl | rfl
            · cases (eTs_1 E).symm.trans h1
              exact va_zald hF.1 hF.2.2.1 hF.2.2.2.2.2.2.2.2.2.2.1 hP k1 1 he (eTs_1 E) (wr_in hi) hd (k ws H locs _ ⟨hv, hs2⟩ hw hP hD hS)
            · cases (eTs_2 E).symm.trans h1
              exact va_bald hF.1 hF.2.2.1 hF.2.2.2.2.2.2.2.2.2.2.1 hP k1 2 he (eTs_2 E) (wr_in hi) hd (k ws H locs _ ⟨hv, hs2⟩ hw hP hD hS)
        · cases q
      · cases q
    · cases q
  · cases q
theorem o_laload (hF : eFr p l R s m args meth c E A M) (hJ : ∀ (pc : Nat) (ls : eL) (st : List eV) (w : eW), J M pc ls st w = some r → eOk p l e R s m args below meth c E A X r M pc ls st w) (hd : decode (eByt M) pc = .ok (.laload, 1)) (q : eALd J M pc ls st w eOkJ (fun x => .inr (.inr (.inl x))) = some r) : eOk p l e R s m args below meth c E A X r M pc ls st w := by
  unfold eALd at q; split at q
  · rename_i i9 k9 st
    split at q
    · rename_i t n f hc
      simp only [Bool.cond_eq_ite] at q; split at q
      · rename_i ht
        split at q
        · rename_i hi
          refine o_stepW (hJ _ _ _ _ q) (fun β ws H locs lsm stv kc ks Q hs hw hP hD hS k => ?_)
          obtain ⟨_, _, rfl, rfl, hs1⟩ := sR_inv hs
          obtain ⟨x, _, rfl, hx, hs2⟩ := sR_inv hs1
          have ht3 : t = 3 := Nat.eq_of_beq_eq_true ht
          subst ht3
          rcases wR_get hw hc with ⟨rfl, h9⟩ | ⟨k1, a1, e1, rfl, ha, he, hr⟩
          · cases h9
          · obtain ⟨a2, ha2, rfl⟩ := vR_ref hx
            cases ha.symm.trans ha2
            obtain rfl := cR_long hr
            refine va_lald hF.1 hF.2.2.1 hF.2.2.2.2.2.2.2.2.2.2.1 hP k1 3 he (eTs_3 E) (wr_in hi) hd (k ws H locs _ ⟨?_, hs2⟩ hw hP hD hS)
            show Value.long _ = Value.long _
            rw [wr_cl _ hi.1]
        · cases q
      · cases q
    · cases q
  · cases q
theorem o_iastore {v i9 : Int} {k9 : Nat} {st : List eV} (hF : eFr p l R s m args meth c E A M) (hJ : ∀ (pc : Nat) (ls : eL) (st : List eV) (w : eW), J M pc ls st w = some r → eOk p l e R s m args below meth c E A X r M pc ls st w) (hd : decode (eByt M) pc = .ok (.iastore, 1)) (q : eASt J M pc ls i9 v k9 st w eOk0 = some r) : eOk p l e R s m args below meth c E A X r M pc ls (.inl v :: .inl i9 :: .inr (.inl (some k9)) :: st) w := by
  unfold eASt at q; split at q
  · rename_i t n f hc
    simp only [Bool.cond_eq_ite] at q; split at q
    · rename_i ht
      split at q
      · rename_i hi
        refine o_stepW (hJ _ _ _ _ q) (fun β ws H locs lsm stv kc ks Q hs hw hP hD hS k => ?_)
        obtain ⟨_, _, rfl, rfl, hs1⟩ := sR_inv hs
        obtain ⟨_, _, rfl, rfl, hs2⟩ := sR_inv hs1
        obtain ⟨x, _, rfl, hx, hs3⟩ := sR_inv hs2
        have ht3 : t = 0 := Nat.eq_of_beq_eq_true ht
        subst ht3
        rcases wR_get hw hc with ⟨rfl, h9⟩ | ⟨k1, a1, e1, rfl, ha, he, hr⟩
        · cases h9
        · obtain ⟨a2, ha2, rfl⟩ := vR_ref hx
          cases ha.symm.trans ha2
          obtain ⟨cA, ty, h1, rfl, hz⟩ := cR_arr hr (by omega)
          cases (eTs_0 E).symm.trans h1
          refine va_iast hF.1 hF.2.2.1 hF.2.2.2.2.2.2.2.2.2.2.1 hP hD hS k1 0 he (eTs_0 E) (wr_in hi) hd (fun H1 locs1 hP1 hD1 hS1 => ?_)
          rw [wr_cl _ hi.1, upd_eUp] at hP1 hD1
          exact k _ H1 locs1 _ hs3 (wR_set hw ha (Or.inr ⟨_, _, by omega, eTs_0 E, rfl, fun h => by omega⟩)) hP1 hD1 hS1
      · cases q
    · cases q
  · cases q
theorem o_lastore {v i9 : Int} {k9 : Nat} {st : List eV} (hF : eFr p l R s m args meth c E A M) (hJ : ∀ (pc : Nat) (ls : eL) (st : List eV) (w : eW), J M pc ls st w = some r → eOk p l e R s m args below meth c E A X r M pc ls st w) (hd : decode (eByt M) pc = .ok (.lastore, 1)) (q : eASt J M pc ls i9 v k9 st w eOkJ = some r) : eOk p l e R s m args below meth c E A X r M pc ls (.inr (.inr (.inl v)) :: .inl i9 :: .inr (.inl (some k9)) :: st) w := by
  unfold eASt at q; split at q
  · rename_i t n f hc
    simp only [Bool.cond_eq_ite] at q; split at q
    · rename_i ht
      split at q
      · rename_i hi
        refine o_stepW (hJ _ _ _ _ q) (fun β ws H locs lsm stv kc ks Q hs hw hP hD hS k => ?_)
        obtain ⟨_, _, rfl, rfl, hs1⟩ := sR_inv hs
        obtain ⟨_, _, rfl, rfl, hs2⟩ := sR_inv hs1
        obtain ⟨x, _, rfl, hx, hs3⟩ := sR_inv hs2
        have ht3 : t = 3 := Nat.eq_of_beq_eq_true ht
        subst ht3
        rcases wR_get hw hc with ⟨rfl, h9⟩ | ⟨k1, a1, e1, rfl, ha, he, hr⟩
        · cases h9
        · obtain ⟨a2, ha2, rfl⟩ := vR_ref hx
          cases ha.symm.trans ha2
          obtain rfl := cR_long hr
          refine va_last hF.1 hF.2.2.1 hF.2.2.2.2.2.2.2.2.2.2.1 hP hD hS k1 3 he (eTs_3 E) (wr_in hi) hd (fun H1 locs1 hP1 hD1 hS1 => ?_)
          rw [wr_cl _ hi.1, updL_eUp] at hP1 hD1
          exact k _ H1 locs1 _ hs3 (wR_set hw ha (Or.inl ⟨rfl, rfl⟩)) hP1 hD1 hS1
      · cases q
    · cases q
  · cases q
theorem eNar1 {v : Int} (h : wr v = 0 ∨ wr v = 1) : Int32.ofInt v = 0 ∨ Int32.ofInt v = 1 := by
  rcases h with h | h
  · exact Or.inl ((wr_eq_iff v 0).mpr h)
  · exact Or.inr ((wr_eq_iff v 1).mpr h)
end Mem
