/-! The walk of every method, and what every method owes. -/
theorem lg_sl1 {E : eE} {α : List Nat} : ∀ {as : List eV} {vs : List Value}, sR E α as vs → eAll1 as = true → (lg_sl vs).length = eLen as ∧ ∀ (i k : Nat) (v : eV), eNth (eArgs as) i = some (some v) → ∃ x, (k + i, x) ∈ lv_args k vs ∧ vR E α v x
  | [], [], _, _ => ⟨rfl, fun i k v h => by simp [eArgs, eNth] at h⟩
  | a :: as, x :: vs, hs, ha => by
    unfold eAll1 at ha
    rw [Bool.and_eq_true] at ha
    have hc : x.category = 1 := (vR_cat hs.1).trans (Nat.eq_of_beq_eq_true ha.1)
    obtain ⟨h1, h2⟩ := lg_sl1 hs.2 ha.2
    have hc2 : ¬ x.category = 2 := by omega
    refine ⟨?_, fun i k v h => ?_⟩
    · unfold lg_sl at h1 ⊢
      rw [List.flatMap_cons, if_neg hc2, List.length_append, h1]
      show 1 + eLen as = eLen as + 1
      omega
    · unfold lv_args
      rw [if_neg hc2]
      cases i with
      | zero =>
        have h : some (some a) = some (some v) := h
        cases h
        exact ⟨x, List.mem_cons_self, hs.1⟩
      | succ i =>
        obtain ⟨y, h3, h4⟩ := h2 i (k + 1) v h
        exact ⟨y, List.mem_cons_of_mem _ (by rw [show k + (i + 1) = k + 1 + i by omega]; exact h3), h4⟩
  | [], _ :: _, hs, _ => hs.elim
  | _ :: _, [], hs, _ => hs.elim
theorem lR_entry {E : eE} {α : List Nat} {as : List eV} {vs : List Value} {n : Nat} (hs : sR E α as vs) (ha : eAll1 as = true) (hn : eLen as ≤ n) : lR E α n (eArgs as) ((lg_sl vs ++ List.replicate (n - (lg_sl vs).length) Slot.unset).toArray) := by
  obtain ⟨h1, h2⟩ := lg_sl1 hs ha
  obtain ⟨q1, q2, q3⟩ := lv_entry vs (n := n) (by omega)
  refine ⟨q1, q2, fun i v h => ?_⟩
  obtain ⟨x, h3, h4⟩ := h2 i 0 v h
  rw [Nat.zero_add] at h3
  exact ⟨x, q3 _ h3, h4⟩
theorem eHh_0 : ∀ M, M < 345 → eHas M = false → eHh M = [] := by decide +kernel
/-- what every frame may use of the fuel k -/
def eWk (l : Launch) (k : Nat) : Prop := ∀ (p : Program) (e : Env) (R : Room) (s : State) (m : MethodId) (args : Array Value) (below : List Frame) (meth : Method) (c : Code) (E : eE) (A : Nat → Prop) (X : List Nat × (Nat × Nat)) (r : (Option eV ⊕ Nat) × eW) (M : Nat), eFr p l R s m args meth c E A M → M < 345 → r.2.2.1 ≤ R.cells + X.2.1 ∧ r.2.2.2 ≤ R.slots + X.2.2 →
  ∀ (pc : Nat) (ls : eL) (st : List eV) (w : eW), eRun k M pc ls st w = some r → eOk p l e R s m args below meth c E A X r M pc ls st w
theorem eEnter {l : Launch} {k : Nat} (hwk : eWk l k) (hst : l.stackTraces = false) {p : Program} {e : Env} {s s₁ : State} {m : MethodId} {below : List Frame} {meth : Method} {c : Code} {y : Nat} {as : List eV} {vs : List Value} {w : eW} {r : (Option eV ⊕ Nat) × eW} {E : eE} {α : List Nat} {ws : va_W} (hy : y < 344)
    (B : BodyLoose p l (eNam y) (headSpec (eHd y :: eAll) (eRm y w r.2)) (eByt y) (eMaxL y) (eRt y) e s m vs.toArray below meth c s₁) (hml : c.maxLocals = eMaxL y) (hexc : c.exceptionTable.toList = (eHh y).map (fun h => { startPc := h.1, endPc := h.2.1, handlerPc := h.2.2.1, catchType := h.2.2.2 }))
    (ha : eAll1 as = true) (hn : eLen as ≤ eMaxL y) (hs : sR E α as vs) (hw : wR E α w.1 ws) (hP : va_P E.1 vwCl ws s.heap) (hK : va_K E.1 vwCl (eTs E) s) (hD : va_D (fun _ => True) ws) (hX : eX E (va_A ws s.heap.size) s) (q : eRun k y 0 (eArgs as) [] w = some r) :
    W p l e (headSpec (eHd y :: eAll) (eRm y w r.2)).room s m vs.toArray below meth c s.heap [] 0 0 (vx_MQ below (eQr E α (va_A ws s.heap.size) r) (eXr E α (va_A ws s.heap.size) r) vs.toArray s (r.2.2.1 - w.2.1) (r.2.2.2 - w.2.2) (va_A ws s.heap.size)) (entryFrame m vs.toArray (eMaxL y)) := by
  have hN := eNam_at (M := y) (by omega)
  have hts : ∀ w9 ∈ eAll, w9.before vs.toArray s = true := fun w9 hw9 => atoms_spec B.pre w9 (List.mem_cons_of_mem _ hw9)
  have hF : eFr p l (headSpec (eHd y :: eAll) (eRm y w r.2)).room s m vs.toArray meth c E (va_A ws s.heap.size) y :=
    ⟨B.exec, hst, B.bytes, hml, B.returns, by rw [← hN.1]; exact findClass_of_methodNamed B.named, B.notSynchronized, hts, fun h => (name_of_methodNamed B.named B.method).1.trans (hN.2.2.2.1 h), fun _ => hexc, hK, hX, fun q h => Or.inr h, Nat.le_refl _, Nat.le_refl _⟩
  have hg := eRun_g k _ _ _ _ _ _ q
  have hok := hwk p e _ s m vs.toArray below meth c E _ (α, (w.2.1, w.2.2)) r y hF (by omega) ⟨by show _ ≤ (r.2.2.1 - w.2.1) + w.2.1; omega, by show _ ≤ (r.2.2.2 - w.2.2) + w.2.2; omega⟩ 0 (eArgs as) [] w q
  rw [lg_entry_eq]
  have h := hok.2 [] ws s.heap [] _ [] 0 0 (by rw [List.append_nil]; exact lR_entry hs ha hn) trivial (by rw [List.append_nil]; exact hw) hP hD.self va_S.rf (Nat.zero_add _) (Nat.zero_add _)
  exact h
theorem eWalk (l : Launch) (hst : l.stackTraces = false) : ∀ k, eWk l k ∧ ∀ (y : Nat) (as : List eV) (w : eW) (r : (Option eV ⊕ Nat) × eW), y < 344 → eRun k y 0 (eArgs as) [] w = some r → eCon l y as w r := by
  intro k
  induction k with
  | zero =>
    constructor
    · intro p e R s m args below meth c E A X r M hF hM hR pc ls st w q
      cases q
    · intro y as w r hy q
      cases q
  | succ n ih =>
    have hwk : eWk l (n + 1) := by
      intro p e R s m args below meth c E A X r M hF hM hR pc ls st w q
      have q : eBody (eRun n) (eRun n) (eRun n) M pc ls st w = some r := q
      unfold eBody at q
      split at q
      · rename_i ins len kp a b hcode
        have hpc : pc < eLB M := by
          unfold eCode at hcode
          cases hb : Nat.blt pc (eLB M) with
          | true => exact (Nat.blt_eq).mp hb
          | false =>
            rw [hb] at hcode
            cases hcode
        have hchk := eChk_all M pc
        unfold eChk at hchk
        rw [hcode] at hchk
        dsimp only at hchk
        rw [Bool.and_eq_true, Bool.and_eq_true] at hchk
        have hok := eStep_ok (C := eRun n) (e := e) (below := below) hF (fun pc ls st w q => ih.1 p e R s m args below meth c E A X r M hF hM hR pc ls st w q) hst ih.2 hR hM hpc hchk.2.1 (of_decide_eq_true hchk.1) hchk.2.2 q
        exact ⟨hok.1, fun β ws H locs lsm stv kc ks hl => hok.2 β ws H locs lsm stv kc ks (lR_take hl)⟩
      · cases q
    refine ⟨hwk, fun y as w r hy q => ⟨eRun_g _ _ _ _ _ _ _ q, fun E α ws sz ha hn => ?_⟩⟩
    have hN := eNam_at (M := y) (by omega)
    cases hh : eHas y with
    | false =>
      refine vx_ofW (cc := eByt y) (maxL := eMaxL y) (ret := eRt y) (ws' := eAll) hN.2.1 (by unfold eHd; rw [hh]; rfl) (fun p e s m args below meth c s₁ B hml hexc hv => ?_)
      obtain ⟨⟨vs, rfl, hs⟩, hsz, hw, hP, hK, hD, hX⟩ := hv
      subst hsz
      exact eEnter hwk hst hy B hml (by rw [eHh_0 y (by omega) hh]; cases hc : c.exceptionTable.toList with | nil => rfl | cons x _ => exact (hexc x (by rw [hc]; exact List.mem_cons_self)).elim) ha hn hs hw hP hK hD hX q
    | true =>
      refine vx_ofWH (cc := eByt y) (maxL := eMaxL y) (ret := eRt y) (hh := eHh y) (ws' := eAll) hN.2.1 (by unfold eHd; rw [hh]; rfl) (fun p e s m args below meth c s₁ B hml hv => ?_)
      obtain ⟨⟨vs, rfl, hs⟩, hsz, hw, hP, hK, hD, hX⟩ := hv
      subst hsz
      have hcw : (Cond.codeWith (eNam y) (eByt y) (eMaxL y) (eRt y) (eHh y)).before vs.toArray s = true := by
        have h9 := atoms_spec B.pre (eHd y) List.mem_cons_self
        unfold eHd at h9
        rw [hh] at h9
        exact h9
      exact eEnter hwk hst hy B hml (vx_table (x := eNam y) B hcw) ha hn hs hw hP hK hD hX q
