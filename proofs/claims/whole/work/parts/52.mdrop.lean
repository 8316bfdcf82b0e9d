/-! A question to a row is a question in any world; the model's masks and what is dropped. -/
def allI : eL → Bool
  | [] => true
  | some (.inl _) :: l => allI l
  | _ => false
theorem tL_int {σ : Nat → eV} {α : List Nat} : ∀ {l : eL}, allI l = true → tL σ α l l
  | [], _ => trivial
  | some (.inl _) :: l, h => ⟨rfl, tL_int (l := l) h⟩
  | none :: _, h => by cases h
  | some (.inr _) :: _, h => by cases h
theorem eSet_same : ∀ {V : List eC} {p : Nat} {x : eC}, eNth V p = some x → eSet V p x = V
  | [], _, _, _ => rfl
  | y :: l, 0, x, h => by simp only [eNth, Option.some.injEq] at h; subst h; rfl
  | y :: l, p + 1, x, h => by show y :: eSet l p x = y :: l; rw [eSet_same (V := l) (p := p) h]
theorem tW_row {σ : Nat → eV} {V : List eC} {p : Nat} {g : Nat → Int} (hV : eNth V p = some (eA 0 964 g)) : tW σ [p] [eA 0 964 g] V := by
  refine ⟨rfl, fun k x hk => ?_, fun i j q ci cj h1 h2 h3 h4 h5 h6 => ?_⟩
  · cases k with
    | zero =>
      simp at hk
      subst hk
      exact ⟨p, _, rfl, by rw [← eNth_eq]; exact hV, Or.inr rfl⟩
    | succ k => simp at hk
  · have e1 : i < 1 := (List.getElem?_eq_some_iff.mp h3).1
    have e2 : j < 1 := (List.getElem?_eq_some_iff.mp h4).1
    omega
theorem rowUse {V : List eC} {p y : Nat} {as : eL} {g g' : Nat → Int} {o : Option eV ⊕ Nat} {d : Nat × Nat} (h : ev y 0 (some (eR 0) :: as) [] ([eA 0 964 g], (0, 0)) = some (o, ([eA 0 964 g'], (0, 0)))) (ha : allI as = true) (hV : eNth V p = some (eA 0 964 g)) : ev y 0 (some (eR p) :: as) [] (V, d) = some (rO (fun _ => eNul) [p] o, (eSet V p (eA 0 964 g'), d)) := by
  have h2 := xUse (σ := fun _ => eNul) (α := [p]) (V := V) (as' := some (eR p) :: as) (d := d) h rfl rfl (tW_row hV) ⟨⟨p, rfl, rfl⟩, tL_int ha⟩
  rw [h2]
  rfl
theorem rowRd {V : List eC} {p y : Nat} {as : eL} {g : Nat → Int} {v : Int} {d : Nat × Nat} (h : ev y 0 (some (eR 0) :: as) [] ([eA 0 964 g], (0, 0)) = some (.inl (some (eI v)), ([eA 0 964 g], (0, 0)))) (ha : allI as = true) (hV : eNth V p = some (eA 0 964 g)) : ev y 0 (some (eR p) :: as) [] (V, d) = some (.inl (some (eI v)), (V, d)) := by
  rw [rowUse h ha hV, eSet_same hV]
  rfl
/-- the model's object, with its rows masks and fresh at hand -/
def mO (P : Nat → Int) : eC := eO 7 [eSt 19, eSt 20, eSt 21, eSt 22, eSt 23, eR 2, eR 3, eSt 24, eI (P 8), eI (P 9), eI (P 10), eSt 25, eI (P 12), eI (P 13), eI (P 14), eI (P 15), eI (P 16), eI (P 17), eI (P 18), eI (P 19), eSt 26, eI (P 21)]
def lA (a : eRow) (w p : Nat) : Nat := lt a w p
def mkf (a : eRow) (k p : Nat) : Nat := if oth a k p = 0 then 0 else lmN (op a k) (fun w => lt a w p)
set_option maxRecDepth 100000
theorem n_findMasks {g mk fr P : Nat → Int} {a : eRow} {c : Nat × Nat} (hg : rg g a) (hG : iG a) (hV : iV a) (hO : iO a) : ev m_M_findMasks 0 [some (eR 1), some (eR 0)] [] ([eA 0 964 g, mO P, eA 0 144 mk, eA 0 24 fr], c) = some (.inl none, ([eA 0 964 g, mO P, eA 0 144 (ofF (sl a) (mkf a) mk (a 3) 0), eA 0 24 fr], c)) := by
  have hn := hG.1.2.2.2.2
  have e3 := hg 3 (by omega)
  have hi : ∀ (k : Nat) (v : Int), k < a 3 → v = (k : Int) → ∀ R : eRes, (∀ y : Int, ev m_M_findMasks 2 [some (eR 1), some (eR 0), some (eI (v + 1))] [] ([eA 0 964 g, mO P, eA 0 144 (ofF (sl a) (mkf a) mk (k + 1) 0), eA 0 24 fr], c) = R) → ∀ p : Nat, p ≤ sl a k → ∀ y : Int, y = (p : Int) → ev m_M_findMasks 11 [some (eR 1), some (eR 0), some (eI v), some (eI y)] [] ([eA 0 964 g, mO P, eA 0 144 (ofF (sl a) (mkf a) mk k p), eA 0 24 fr], c) = R := by
    intro k v hk hv R hR
    obtain ⟨h1, h2, h3, h4, h5, h6, h7⟩ := sl_at hG hk
    have e2 : g (148 + 4 * k + 2) = (sl a k : Int) := hg (148 + 4 * k + 2) (by omega)
    refine loop_up ?_ ?_
    · intro y hy
      rw [ofF_next]
      refine xCallI (N := 4) (v := 148 + 4 * v) (M2 := m_M_findMasks) (pc2 := 14) (ls2 := [some (eR 1), some (eR 0), some (eI v), some (eI y)]) (st2 := [eR 0, eI y]) (y := m_M_ofSlot) (as := [some (eI v)]) (w2 := ([eA 0 964 g, mO P, eA 0 144 (ofF (sl a) (mkf a) mk (k + 1) 0), eA 0 24 fr], c)) rfl n_ofSlot (fun r14 hr14 => ?_)
      refine xLd (N := 3) (n := 964) (i := r14 + 2) (F := fun zq => ev m_M_findMasks 20 [some (eR 1), some (eR 0), some (eI v), some (eI y)] [eI (g zq), eI y] ([eA 0 964 g, mO P, eA 0 144 (ofF (sl a) (mkf a) mk (k + 1) 0), eA 0 24 fr], c)) (k := (148 + 4 * k) + 2) rfl (wr_nat (by omega) (by omega)) (by omega) ?_
      refine xLtF (N := 1) (x := y) (y := g ((148 + 4 * k) + 2)) (A := ev m_M_findMasks 23 [some (eR 1), some (eR 0), some (eI v), some (eI y)] [] ([eA 0 964 g, mO P, eA 0 144 (ofF (sl a) (mkf a) mk (k + 1) 0), eA 0 24 fr], c)) (B := ev m_M_findMasks 60 [some (eR 1), some (eR 0), some (eI v), some (eI y)] [] ([eA 0 964 g, mO P, eA 0 144 (ofF (sl a) (mkf a) mk (k + 1) 0), eA 0 24 fr], c)) rfl (wr_id (by omega) (by omega)) (wr_id (by omega) (by omega)) (by omega) ?_
      refine xSeg (N := 2) (r := ev m_M_findMasks 2 [some (eR 1), some (eR 0), some (eI (v + 1)), some (eI y)] [] ([eA 0 964 g, mO P, eA 0 144 (ofF (sl a) (mkf a) mk (k + 1) 0), eA 0 24 fr], c)) rfl ?_
      refine xTk 3 (by rfl) rfl ?_
      exact hR y
    · intro p hp ih y hy
      have hb := oth_le hG hk hp
      have hot := rowRd (V := [eA 0 964 g, mO P, eA 0 144 (ofF (sl a) (mkf a) mk k p), eA 0 24 fr]) (p := 0) (d := c) (n_otherAt (c := (0, 0)) hg hG hv hy hk hp) rfl rfl
      have hla := rowRd (V := [eA 0 964 g, mO P, eA 0 144 (ofF (sl a) (mkf a) mk k p), eA 0 24 fr]) (p := 0) (d := c) (n_lettersAt (c := (0, 0)) hg hV hO hv hy hk hn hp h3) rfl rfl
      have hst : ∀ z : Int, z = ((mkf a k p : Nat) : Int) → eUp (ofF (sl a) (mkf a) mk k p) (6 * k + p) z = ofF (sl a) (mkf a) mk k (p + 1) := fun z hz => by rw [Nat.mul_comm 6 k, hz, ofF_step (by omega)]
      refine xCallI (N := 4) (v := 148 + 4 * v) (M2 := m_M_findMasks) (pc2 := 14) (ls2 := [some (eR 1), some (eR 0), some (eI v), some (eI y)]) (st2 := [eR 0, eI y]) (y := m_M_ofSlot) (as := [some (eI v)]) (w2 := ([eA 0 964 g, mO P, eA 0 144 (ofF (sl a) (mkf a) mk k p), eA 0 24 fr], c)) rfl n_ofSlot (fun r14 hr14 => ?_)
      refine xLd (N := 3) (n := 964) (i := r14 + 2) (F := fun zq => ev m_M_findMasks 20 [some (eR 1), some (eR 0), some (eI v), some (eI y)] [eI (g zq), eI y] ([eA 0 964 g, mO P, eA 0 144 (ofF (sl a) (mkf a) mk k p), eA 0 24 fr], c)) (k := (148 + 4 * k) + 2) rfl (wr_nat (by omega) (by omega)) (by omega) ?_
      refine xLtT (N := 1) (x := y) (y := g ((148 + 4 * k) + 2)) (A := ev m_M_findMasks 23 [some (eR 1), some (eR 0), some (eI v), some (eI y)] [] ([eA 0 964 g, mO P, eA 0 144 (ofF (sl a) (mkf a) mk k p), eA 0 24 fr], c)) (B := ev m_M_findMasks 60 [some (eR 1), some (eR 0), some (eI v), some (eI y)] [] ([eA 0 964 g, mO P, eA 0 144 (ofF (sl a) (mkf a) mk k p), eA 0 24 fr], c)) rfl (wr_id (by omega) (by omega)) (wr_id (by omega) (by omega)) (by omega) ?_
      refine xCallI (N := 11) (v := (oth a k p : Int) - 1) (M2 := m_M_findMasks) (pc2 := 36) (ls2 := [some (eR 1), some (eR 0), some (eI v), some (eI y)]) (st2 := [eI ((6 * v) + y), eR 2]) (y := m_M_otherAt) (as := [some (eR 0), some (eI v), some (eI y)]) (w2 := ([eA 0 964 g, mO P, eA 0 144 (ofF (sl a) (mkf a) mk k p), eA 0 24 fr], c)) rfl hot (fun r36 hr36 => ?_)
      refine xEq (N := 2) (x := r36) (y := (-1)) (A := ev m_M_findMasks 43 [some (eR 1), some (eR 0), some (eI v), some (eI y)] [eI ((6 * v) + y), eR 2] ([eA 0 964 g, mO P, eA 0 144 (ofF (sl a) (mkf a) mk k p), eA 0 24 fr], c)) (B := ev m_M_findMasks 47 [some (eR 1), some (eR 0), some (eI v), some (eI y)] [eI ((6 * v) + y), eR 2] ([eA 0 964 g, mO P, eA 0 144 (ofF (sl a) (mkf a) mk k p), eA 0 24 fr], c)) rfl (wr_id (by omega) (by omega)) (show wr (-1) = (-1) by decide) (fun h40 => ?_) (fun h40 => ?_)
      · refine xLd (N := 3) (n := 144) (i := (6 * v) + y) (F := fun zq => ev m_M_findMasks 54 [some (eR 1), some (eR 0), some (eI v), some (eI y)] [] ([eA 0 964 g, mO P, eA 0 144 (eUp (ofF (sl a) (mkf a) mk k p) zq 0), eA 0 24 fr], c)) (k := (6 * k) + p) rfl (wr_nat (by omega) (by omega)) (by omega) ?_
        refine xSeg (N := 2) (r := ev m_M_findMasks 11 [some (eR 1), some (eR 0), some (eI v), some (eI (y + 1))] [] ([eA 0 964 g, mO P, eA 0 144 (eUp (ofF (sl a) (mkf a) mk k p) ((6 * k) + p) 0), eA 0 24 fr], c)) rfl ?_
        first | (rw [hst 0 (by unfold mkf; rw [if_pos (by omega)]; rfl)]; exact ih _ (by omega)) | (rw [hst r50 (by unfold mkf; rw [if_neg (by omega)]; exact hr50)]; exact ih _ (by omega))
      · refine xCallI (N := 4) (v := ((lmN (op a k) (fun w => lt a w p) : Nat) : Int)) (M2 := m_M_findMasks) (pc2 := 50) (ls2 := [some (eR 1), some (eR 0), some (eI v), some (eI y)]) (st2 := [eI ((6 * v) + y), eR 2]) (y := m_M_lettersAt) (as := [some (eR 0), some (eI v), some (eI y)]) (w2 := ([eA 0 964 g, mO P, eA 0 144 (ofF (sl a) (mkf a) mk k p), eA 0 24 fr], c)) rfl hla (fun r50 hr50 => ?_)
        refine xLd (N := 1) (n := 144) (i := (6 * v) + y) (F := fun zq => ev m_M_findMasks 54 [some (eR 1), some (eR 0), some (eI v), some (eI y)] [] ([eA 0 964 g, mO P, eA 0 144 (eUp (ofF (sl a) (mkf a) mk k p) zq r50), eA 0 24 fr], c)) (k := (6 * k) + p) rfl (wr_nat (by omega) (by omega)) (by omega) ?_
        refine xSeg (N := 2) (r := ev m_M_findMasks 11 [some (eR 1), some (eR 0), some (eI v), some (eI (y + 1))] [] ([eA 0 964 g, mO P, eA 0 144 (eUp (ofF (sl a) (mkf a) mk k p) ((6 * k) + p) r50), eA 0 24 fr], c)) rfl ?_
        first | (rw [hst 0 (by unfold mkf; rw [if_pos (by omega)]; rfl)]; exact ih _ (by omega)) | (rw [hst r50 (by unfold mkf; rw [if_neg (by omega)]; exact hr50)]; exact ih _ (by omega))
  have hl : ∀ k : Nat, k ≤ a 3 → ∀ v : Int, v = ((k : Nat) : Int) → ev m_M_findMasks 2 [some (eR 1), some (eR 0), some (eI v)] [] ([eA 0 964 g, mO P, eA 0 144 (ofF (sl a) (mkf a) mk k 0), eA 0 24 fr], c) = some (.inl none, ([eA 0 964 g, mO P, eA 0 144 (ofF (sl a) (mkf a) mk (a 3) 0), eA 0 24 fr], c)) := by
    refine loop_up ?_ ?_
    · intro v hv
      refine xLd (N := 4) (n := 964) (i := 3) (F := fun zq => ev m_M_findMasks 6 [some (eR 1), some (eR 0), some (eI v)] [eI (g zq), eI v] ([eA 0 964 g, mO P, eA 0 144 (ofF (sl a) (mkf a) mk (a 3) 0), eA 0 24 fr], c)) (k := 3) rfl (show wr 3 = ((3 : Nat) : Int) by decide) (by omega) ?_
      refine xLtF (N := 1) (x := v) (y := g 3) (A := ev m_M_findMasks 9 [some (eR 1), some (eR 0), some (eI v)] [] ([eA 0 964 g, mO P, eA 0 144 (ofF (sl a) (mkf a) mk (a 3) 0), eA 0 24 fr], c)) (B := ev m_M_findMasks 66 [some (eR 1), some (eR 0), some (eI v)] [] ([eA 0 964 g, mO P, eA 0 144 (ofF (sl a) (mkf a) mk (a 3) 0), eA 0 24 fr], c)) rfl (wr_id (by omega) (by omega)) (wr_id (by omega) (by omega)) (by omega) ?_
      refine xSeg (N := 1) (r := some (.inl none, ([eA 0 964 g, mO P, eA 0 144 (ofF (sl a) (mkf a) mk (a 3) 0), eA 0 24 fr], c))) rfl ?_
      rfl
    · intro k hk ih v hv
      refine xLd (N := 4) (n := 964) (i := 3) (F := fun zq => ev m_M_findMasks 6 [some (eR 1), some (eR 0), some (eI v)] [eI (g zq), eI v] ([eA 0 964 g, mO P, eA 0 144 (ofF (sl a) (mkf a) mk k 0), eA 0 24 fr], c)) (k := 3) rfl (show wr 3 = ((3 : Nat) : Int) by decide) (by omega) ?_
      refine xLtT (N := 1) (x := v) (y := g 3) (A := ev m_M_findMasks 9 [some (eR 1), some (eR 0), some (eI v)] [] ([eA 0 964 g, mO P, eA 0 144 (ofF (sl a) (mkf a) mk k 0), eA 0 24 fr], c)) (B := ev m_M_findMasks 66 [some (eR 1), some (eR 0), some (eI v)] [] ([eA 0 964 g, mO P, eA 0 144 (ofF (sl a) (mkf a) mk k 0), eA 0 24 fr], c)) rfl (wr_id (by omega) (by omega)) (wr_id (by omega) (by omega)) (by omega) ?_
      refine xSeg (N := 2) (r := ev m_M_findMasks 11 [some (eR 1), some (eR 0), some (eI v), some (eI 0)] [] ([eA 0 964 g, mO P, eA 0 144 (ofF (sl a) (mkf a) mk k 0), eA 0 24 fr], c)) rfl ?_
      exact hi k v hk hv _ (fun y => ih _ (by omega)) 0 (Nat.zero_le _) _ rfl
  have h0 := hl 0 (Nat.zero_le _) 0 rfl
  rw [ofF_0] at h0
  refine xSeg (N := 2) (r := ev m_M_findMasks 2 [some (eR 1), some (eR 0), some (eI 0)] [] ([eA 0 964 g, mO P, eA 0 144 mk, eA 0 24 fr], c)) rfl ?_
  exact h0
def mkOk (a : eRow) (mk : Nat → Int) : Prop := ∀ k p, k < a 3 → p < sl a k → mk (6 * k + p) = ((mkf a k p : Nat) : Int)
theorem mkf_lt {a : eRow} (hG : iG a) (hV : iV a) (hO : iO a) {k p : Nat} (hk : k < a 3) (hp : p < sl a k) : mkf a k p < 67108864 := by
  unfold mkf
  split
  · omega
  · exact lmN_lt (fun w hw => by
      have h1 := (hO k hk).2 w hw
      exact lt_26 hV h1.1 (by omega))
theorem n_lacks {g mk fr P : Nat → Int} {a : eRow} {c : Nat × Nat} {x z y : Int} {k w p : Nat} (hg : rg g a) (hG : iG a) (hV : iV a) (hO : iO a) (hmk : mkOk a mk) (hx : x = (k : Int)) (hz : z = (w : Int)) (hy : y = (p : Int)) (hk : k < a 3) (hp : p < sl a k) (hw : w < a 2) (hl : wl a w = sl a k) : ev m_M_lacks 0 [some (eR 1), some (eR 0), some (eI x), some (eI z), some (eI y)] [] ([eA 0 964 g, mO P, eA 0 144 mk, eA 0 24 fr], c) = some (.inl (some (eI (bI (lk (oth a) (plc a) (lt a) (op a) k p w)))), ([eA 0 964 g, mO P, eA 0 144 mk, eA 0 24 fr], c)) := by
  have hn := hG.1.2.2.2.2
  have hm30 := hV.1
  have hb := oth_le hG hk hp
  have hc := cel_lt hG hk hp
  have v := hV.2 w hw
  have hl26 := lt_26 hV hw (i := p) (by omega)
  have hot := rowRd (V := [eA 0 964 g, mO P, eA 0 144 mk, eA 0 24 fr]) (p := 0) (d := c) (n_otherAt (c := (0, 0)) hg hG hx hy hk hp) rfl rfl
  have hce := rowRd (V := [eA 0 964 g, mO P, eA 0 144 mk, eA 0 24 fr]) (p := 0) (d := c) (n_cellAt (c := (0, 0)) hg hG hx hy hk hp) rfl rfl
  have hle := rowRd (V := [eA 0 964 g, mO P, eA 0 144 mk, eA 0 24 fr]) (p := 0) (d := c) (n_letter (c := (0, 0)) hg hz hy (by omega) v.2.1 (by omega) v.2.2.1.1 (v.2.2.2 p (by omega)).1) rfl rfl
  by_cases ho : oth a k p = 0
  · rw [show lk (oth a) (plc a) (lt a) (op a) k p w = false by unfold lk; rw [decide_eq_false (by omega)]; rfl]
    refine xCallI (N := 4) (v := (oth a k p : Int) - 1) (M2 := m_M_lacks) (pc2 := 4) (ls2 := [some (eR 1), some (eR 0), some (eI x), some (eI z), some (eI y)]) (st2 := []) (y := m_M_otherAt) (as := [some (eR 0), some (eI x), some (eI y)]) (w2 := ([eA 0 964 g, mO P, eA 0 144 mk, eA 0 24 fr], c)) rfl hot (fun r4 hr4 => ?_)
    refine xEqT (N := 4) (x := r4) (y := (-1)) (A := ev m_M_lacks 15 [some (eR 1), some (eR 0), some (eI x), some (eI z), some (eI y), some (eI r4)] [] ([eA 0 964 g, mO P, eA 0 144 mk, eA 0 24 fr], c)) (B := ev m_M_lacks 17 [some (eR 1), some (eR 0), some (eI x), some (eI z), some (eI y), some (eI r4)] [] ([eA 0 964 g, mO P, eA 0 144 mk, eA 0 24 fr], c)) rfl (wr_id (by omega) (by omega)) (show wr (-1) = (-1) by decide) (by omega) ?_
    refine xRb (N := 2) (v := 0) (w2 := ([eA 0 964 g, mO P, eA 0 144 mk, eA 0 24 fr], c)) rfl (by decide) ?_
    rfl
  · obtain ⟨q1, q2, q3, q4, q5, q6⟩ := cross hG hk hp ho
    have h3 := (sl_at hG q1).2.2.1
    have hpi := fun z2 hz2 z3 hz3 => rowRd (V := [eA 0 964 g, mO P, eA 0 144 mk, eA 0 24 fr]) (p := 0) (d := c) (n_placeIn (c := (0, 0)) (x := z2) (z := z3) (j := oth a k p - 1) (e := cel a k p) hg hG hz2 hz3 q1 hc q6) rfl rfl
    have hmq := hmk (oth a k p - 1) (plc a k p) q1 q3
    have hml := mkf_lt hG hV hO q1 q3
    have hmv : mkf a (oth a k p - 1) (plc a k p) = lmN (op a (oth a k p - 1)) (fun w => lt a w (plc a k p)) := by unfold mkf; rw [if_neg (by omega)]
    rw [show lk (oth a) (plc a) (lt a) (op a) k p w = !(mkf a (oth a k p - 1) (plc a k p)).testBit (lt a w p) by unfold lk; rw [decide_eq_true ho, hmv]; rfl]
    refine xCallI (N := 4) (v := (oth a k p : Int) - 1) (M2 := m_M_lacks) (pc2 := 4) (ls2 := [some (eR 1), some (eR 0), some (eI x), some (eI z), some (eI y)]) (st2 := []) (y := m_M_otherAt) (as := [some (eR 0), some (eI x), some (eI y)]) (w2 := ([eA 0 964 g, mO P, eA 0 144 mk, eA 0 24 fr], c)) rfl hot (fun r4 hr4 => ?_)
    refine xEqF (N := 4) (x := r4) (y := (-1)) (A := ev m_M_lacks 15 [some (eR 1), some (eR 0), some (eI x), some (eI z), some (eI y), some (eI r4)] [] ([eA 0 964 g, mO P, eA 0 144 mk, eA 0 24 fr], c)) (B := ev m_M_lacks 17 [some (eR 1), some (eR 0), some (eI x), some (eI z), some (eI y), some (eI r4)] [] ([eA 0 964 g, mO P, eA 0 144 mk, eA 0 24 fr], c)) rfl (wr_id (by omega) (by omega)) (show wr (-1) = (-1) by decide) (by omega) ?_
    refine xCallI (N := 6) (v := ((cel a k p : Nat) : Int)) (M2 := m_M_lacks) (pc2 := 24) (ls2 := [some (eR 1), some (eR 0), some (eI x), some (eI z), some (eI y), some (eI r4)]) (st2 := [eI r4, eR 0]) (y := m_M_cellAt) (as := [some (eR 0), some (eI x), some (eI y)]) (w2 := ([eA 0 964 g, mO P, eA 0 144 mk, eA 0 24 fr], c)) rfl hce (fun r24 hr24 => ?_)
    refine xCallI (N := 1) (v := ((plc a k p : Nat) : Int)) (M2 := m_M_lacks) (pc2 := 27) (ls2 := [some (eR 1), some (eR 0), some (eI x), some (eI z), some (eI y), some (eI r4)]) (st2 := []) (y := m_M_placeIn) (as := [some (eR 0), some (eI r4), some (eI r24)]) (w2 := ([eA 0 964 g, mO P, eA 0 144 mk, eA 0 24 fr], c)) rfl (hpi r4 (by omega) r24 hr24) (fun r27 hr27 => ?_)
    refine xLd (N := 9) (n := 144) (i := (6 * r4) + r27) (F := fun zq => ev m_M_lacks 45 [some (eR 1), some (eR 0), some (eI x), some (eI z), some (eI y), some (eI r4), some (eI r27)] [eI (mk zq)] ([eA 0 964 g, mO P, eA 0 144 mk, eA 0 24 fr], c)) (k := (6 * (oth a k p - 1)) + (plc a k p)) rfl (wr_nat (by omega) (by omega)) (by omega) ?_
    refine xCallI (N := 4) (v := ((lt a w p : Nat) : Int)) (M2 := m_M_lacks) (pc2 := 49) (ls2 := [some (eR 1), some (eR 0), some (eI x), some (eI z), some (eI y), some (eI r4), some (eI r27)]) (st2 := [eI (mk ((6 * (oth a k p - 1)) + (plc a k p)))]) (y := m_M_letter) (as := [some (eR 0), some (eI z), some (eI y)]) (w2 := ([eA 0 964 g, mO P, eA 0 144 mk, eA 0 24 fr], c)) rfl hle (fun r49 hr49 => ?_)
    refine xTop (N := 3) (pc2 := 55) (ls2 := [some (eR 1), some (eR 0), some (eI x), some (eI z), some (eI y), some (eI r4), some (eI r27)]) (a := bAnd (bShr (mk ((6 * (oth a k p - 1)) + (plc a k p))) r49) 1) (b := bI ((mkf a (oth a k p - 1) (plc a k p)).testBit (lt a w p))) (st2 := []) (w2 := ([eA 0 964 g, mO P, eA 0 144 mk, eA 0 24 fr], c)) rfl (b_tb hmq (by omega) hr49 (by omega)) (fun u hu => ?_)
    have hq := bI_1 hu
    refine xEq (N := 1) (x := u) (y := 0) (A := ev m_M_lacks 58 [some (eR 1), some (eR 0), some (eI x), some (eI z), some (eI y), some (eI r4), some (eI r27)] [] ([eA 0 964 g, mO P, eA 0 144 mk, eA 0 24 fr], c)) (B := ev m_M_lacks 62 [some (eR 1), some (eR 0), some (eI x), some (eI z), some (eI y), some (eI r4), some (eI r27)] [] ([eA 0 964 g, mO P, eA 0 144 mk, eA 0 24 fr], c)) rfl (wr_id (by omega) (by omega)) (show wr 0 = 0 by decide) (fun h55 => ?_) (fun h55 => ?_)
    · refine xRb (N := 3) (v := 1) (w2 := ([eA 0 964 g, mO P, eA 0 144 mk, eA 0 24 fr], c)) rfl (by decide) ?_
      first | exact lf (bT (by rw [hq.2.2.mp (by omega)]; rfl)) | exact lf (bF (by rw [hq.2.1.mp (by omega)]; rfl))
    · refine xRb (N := 2) (v := 0) (w2 := ([eA 0 964 g, mO P, eA 0 144 mk, eA 0 24 fr], c)) rfl (by decide) ?_
      first | exact lf (bT (by rw [hq.2.2.mp (by omega)]; rfl)) | exact lf (bF (by rw [hq.2.1.mp (by omega)]; rfl))
theorem n_isSupported {g mk fr P : Nat → Int} {a : eRow} {c : Nat × Nat} {x z : Int} {k w : Nat} (hg : rg g a) (hG : iG a) (hV : iV a) (hO : iO a) (hmk : mkOk a mk) (hx : x = (k : Int)) (hz : z = (w : Int)) (hk : k < a 3) (hw : w < a 2) (hl : wl a w = sl a k) : ev m_M_isSupported 0 [some (eR 1), some (eR 0), some (eI x), some (eI z)] [] ([eA 0 964 g, mO P, eA 0 144 mk, eA 0 24 fr], c) = some (.inl (some (eI (bI (allN (fun q => !lk (oth a) (plc a) (lt a) (op a) k q w) (sl a k))))), ([eA 0 964 g, mO P, eA 0 144 mk, eA 0 24 fr], c)) := by
  have hn := hG.1.2.2.2.2
  obtain ⟨h1, h2, h3, h4, h5, h6, h7⟩ := sl_at hG hk
  have e2 : g (148 + 4 * k + 2) = (sl a k : Int) := hg (148 + 4 * k + 2) (by omega)
  have hl2 : ∀ p : Nat, p ≤ sl a k → ∀ y : Int, y = (p : Int) → (∀ q, q < p → lk (oth a) (plc a) (lt a) (op a) k q w = false) → ev m_M_isSupported 3 [some (eR 1), some (eR 0), some (eI x), some (eI z), some (eI y)] [] ([eA 0 964 g, mO P, eA 0 144 mk, eA 0 24 fr], c) = some (.inl (some (eI (bI (allN (fun q => !lk (oth a) (plc a) (lt a) (op a) k q w) (sl a k))))), ([eA 0 964 g, mO P, eA 0 144 mk, eA 0 24 fr], c)) := by
    refine loop_up ?_ ?_
    · intro y hy ha
      refine xCallI (N := 4) (v := 148 + 4 * x) (M2 := m_M_isSupported) (pc2 := 7) (ls2 := [some (eR 1), some (eR 0), some (eI x), some (eI z), some (eI y)]) (st2 := [eR 0, eI y]) (y := m_M_ofSlot) (as := [some (eI x)]) (w2 := ([eA 0 964 g, mO P, eA 0 144 mk, eA 0 24 fr], c)) rfl n_ofSlot (fun r7 hr7 => ?_)
      refine xLd (N := 3) (n := 964) (i := r7 + 2) (F := fun zq => ev m_M_isSupported 13 [some (eR 1), some (eR 0), some (eI x), some (eI z), some (eI y)] [eI (g zq), eI y] ([eA 0 964 g, mO P, eA 0 144 mk, eA 0 24 fr], c)) (k := (148 + 4 * k) + 2) rfl (wr_nat (by omega) (by omega)) (by omega) ?_
      refine xLtF (N := 1) (x := y) (y := g ((148 + 4 * k) + 2)) (A := ev m_M_isSupported 16 [some (eR 1), some (eR 0), some (eI x), some (eI z), some (eI y)] [] ([eA 0 964 g, mO P, eA 0 144 mk, eA 0 24 fr], c)) (B := ev m_M_isSupported 36 [some (eR 1), some (eR 0), some (eI x), some (eI z), some (eI y)] [] ([eA 0 964 g, mO P, eA 0 144 mk, eA 0 24 fr], c)) rfl (wr_id (by omega) (by omega)) (wr_id (by omega) (by omega)) (by omega) ?_
      refine xRb (N := 2) (v := 1) (w2 := ([eA 0 964 g, mO P, eA 0 144 mk, eA 0 24 fr], c)) rfl (by decide) ?_
      exact lf (bT (allN_iff.mpr (fun q hq => by rw [ha q hq]; rfl)))
    · intro p hp ih y hy ha
      have hla := n_lacks (P := P) (fr := fr) (c := c) hg hG hV hO hmk hx hz hy hk hp hw hl
      refine xCallI (N := 4) (v := 148 + 4 * x) (M2 := m_M_isSupported) (pc2 := 7) (ls2 := [some (eR 1), some (eR 0), some (eI x), some (eI z), some (eI y)]) (st2 := [eR 0, eI y]) (y := m_M_ofSlot) (as := [some (eI x)]) (w2 := ([eA 0 964 g, mO P, eA 0 144 mk, eA 0 24 fr], c)) rfl n_ofSlot (fun r7 hr7 => ?_)
      refine xLd (N := 3) (n := 964) (i := r7 + 2) (F := fun zq => ev m_M_isSupported 13 [some (eR 1), some (eR 0), some (eI x), some (eI z), some (eI y)] [eI (g zq), eI y] ([eA 0 964 g, mO P, eA 0 144 mk, eA 0 24 fr], c)) (k := (148 + 4 * k) + 2) rfl (wr_nat (by omega) (by omega)) (by omega) ?_
      refine xLtT (N := 1) (x := y) (y := g ((148 + 4 * k) + 2)) (A := ev m_M_isSupported 16 [some (eR 1), some (eR 0), some (eI x), some (eI z), some (eI y)] [] ([eA 0 964 g, mO P, eA 0 144 mk, eA 0 24 fr], c)) (B := ev m_M_isSupported 36 [some (eR 1), some (eR 0), some (eI x), some (eI z), some (eI y)] [] ([eA 0 964 g, mO P, eA 0 144 mk, eA 0 24 fr], c)) rfl (wr_id (by omega) (by omega)) (wr_id (by omega) (by omega)) (by omega) ?_
      refine xCallWI (N := 6) (v := bI (lk (oth a) (plc a) (lt a) (op a) k p w)) (M2 := m_M_isSupported) (pc2 := 22) (ls2 := [some (eR 1), some (eR 0), some (eI x), some (eI z), some (eI y)]) (st2 := []) (y := m_M_lacks) (as := [some (eR 1), some (eR 0), some (eI x), some (eI z), some (eI y)]) (w2 := ([eA 0 964 g, mO P, eA 0 144 mk, eA 0 24 fr], c)) rfl hla (fun r22 hr22 => ?_)
      have hq := bI_1 hr22
      refine xEq (N := 1) (x := r22) (y := 0) (A := ev m_M_isSupported 30 [some (eR 1), some (eR 0), some (eI x), some (eI z), some (eI y)] [] ([eA 0 964 g, mO P, eA 0 144 mk, eA 0 24 fr], c)) (B := ev m_M_isSupported 28 [some (eR 1), some (eR 0), some (eI x), some (eI z), some (eI y)] [] ([eA 0 964 g, mO P, eA 0 144 mk, eA 0 24 fr], c)) rfl (wr_id (by omega) (by omega)) (show wr 0 = 0 by decide) (fun h25 => ?_) (fun h25 => ?_)
      · refine xSeg (N := 2) (r := ev m_M_isSupported 3 [some (eR 1), some (eR 0), some (eI x), some (eI z), some (eI (y + 1))] [] ([eA 0 964 g, mO P, eA 0 144 mk, eA 0 24 fr], c)) rfl ?_
        refine ih _ (by omega) (fun q hq2 => ?_)
        by_cases hqp : q = p
        · subst hqp; exact hq.2.2.mp (by omega)
        · exact ha q (by omega)
      · refine xRb (N := 2) (v := 0) (w2 := ([eA 0 964 g, mO P, eA 0 144 mk, eA 0 24 fr], c)) rfl (by decide) ?_
        exact lf (bF (allN_F hp (by rw [hq.2.1.mp (by omega)]; rfl)))
  refine xSeg (N := 2) (r := ev m_M_isSupported 3 [some (eR 1), some (eR 0), some (eI x), some (eI z), some (eI 0)] [] ([eA 0 964 g, mO P, eA 0 144 mk, eA 0 24 fr], c)) rfl ?_
  exact hl2 0 (Nat.zero_le _) _ rfl (fun q hq => absurd hq (by omega))
