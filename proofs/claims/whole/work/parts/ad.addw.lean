/-! The class: addWord. -/
theorem atL_lf {V : List eC} : ∀ {as bs : List Nat} {cs ds : List eC}, as.length = cs.length → atL V (as ++ bs) (cs ++ ds) → atL V as cs
  | [], _, [], _, _, _ => trivial
  | _ :: as, bs, _ :: cs, ds, hl, h => ⟨h.1, atL_lf (as := as) (bs := bs) (cs := cs) (ds := ds) (by simpa using hl) h.2⟩
  | [], _, _ :: _, _, h, _ => by simp at h
  | _ :: _, _, [], _, h, _ => by simp at h
theorem atL_rt {V : List eC} : ∀ {as bs : List Nat} {cs ds : List eC}, as.length = cs.length → atL V (as ++ bs) (cs ++ ds) → atL V bs ds
  | [], _, [], _, _, h => h
  | _ :: as, bs, _ :: cs, ds, hl, h => atL_rt (as := as) (bs := bs) (cs := cs) (ds := ds) (by simpa using hl) h.2
  | [], _, _ :: _, _, h, _ => by simp at h
  | _ :: _, _, [], _, h, _ => by simp at h
theorem wd_eqc {a : eRow} {cd L k : Nat} (hV : iV a) (hk : k < a 2) (hc : cdOk cd L) : decide (a (88 + k) = cd) = (decide (wl a k = L) && allN (fun p => decide ((fun i => 96 + cd / 32 ^ (L - 1 - i) % 32) (0 + p) = 97 + lt a k p)) L) := by
  have hq := cd_eq hV hk hc
  obtain ⟨v1, v2, v3, v5⟩ := hV.2 k hk
  by_cases he : a (88 + k) = cd
  · rw [decide_eq_true he]
    obtain ⟨q1, q2⟩ := hq.mp he
    rw [decide_eq_true q1, Bool.true_and]
    refine (allN_iff.mpr (fun p hp => decide_eq_true ?_)).symm
    have q3 := q2 p hp
    have q4 := v5 p (by omega)
    dsimp only
    rw [Nat.zero_add]
    unfold lt
    omega
  · rw [decide_eq_false he]
    refine (Bool.eq_false_iff.mpr (fun hb => he (hq.mpr ?_))).symm
    obtain ⟨b1, b2⟩ := Bool.and_eq_true_iff.mp hb
    have b3 := of_decide_eq_true b1
    refine ⟨b3, fun p hp => ?_⟩
    have b4 := of_decide_eq_true (allN_iff.mp b2 p hp)
    dsimp only at b4
    rw [Nat.zero_add] at b4
    have q4 := v5 p (by omega)
    unfold lt at b4
    omega
theorem sp_any {t : Nat → Int} {x ln : Int} (bx : -2147483648 ≤ x ∧ x < 2147483648) : ∃ (v : Int) (t' : Nat → Int), ((∀ cd : Nat, x = (cd : Int) → loN cd = 0) → v < 2 ∧ 0 ≤ v) ∧ (∀ cd : Nat, x = (cd : Int) → loN cd ≠ 0 → v = ((loN cd : Nat) : Int) ∧ ∀ p, p < loN cd → t' p = ((96 + cd / 32 ^ (loN cd - 1 - p) % 32 : Nat) : Int)) ∧ ev m_I_spell 0 [some (eR 0), some (eI x)] [] ([eO 2 [eSt 19, eI ln, eR 1], eA 0 6 t], (0, 0)) = some (.inl (some (eI v)), ([eO 2 [eSt 19, eI ln, eR 1], eA 0 6 t'], (0, 0))) := by
  by_cases h0 : x < 0
  · exact ⟨0, t, fun _ => by omega, fun cd h => by omega, c_spellNeg bx.1 h0⟩
  obtain ⟨cd, hx⟩ : ∃ cd : Nat, x = (cd : Int) := ⟨x.toNat, by omega⟩
  by_cases h1 : 1073741824 ≤ cd
  · refine ⟨0, t, fun _ => by omega, fun cd' h h2 => ?_, c_spellBig hx h1 (by omega)⟩
    have hc := (loN_ok (cd := cd') (by omega) h2).2.2.1.1
    omega
  · obtain ⟨t', q1, q2⟩ := c_spell (t := t) (c := (0, 0)) (ln := ln) hx (by omega)
    have h6 : dN 7 cd ≤ 6 := dN_6 (Nat.lt_of_lt_of_le (show cd < 1073741824 by omega) (by decide))
    refine ⟨_, t', fun h => ?_, fun cd' h h2 => ?_, q2⟩
    · have hl := h cd hx
      unfold loN at hl
      generalize dN 7 cd = m at *
      cases hv : vN 7 cd with
      | false => rw [cond_false]; omega
      | true =>
        rw [hv, cond_true] at hl
        rw [cond_true]
        by_cases hm : 2 ≤ m ∧ m ≤ 6
        · rw [if_pos hm] at hl; omega
        · omega
    · have he : cd' = cd := by omega
      subst he
      have he : loN cd' = dN 7 cd' ∧ vN 7 cd' = true := by
        unfold loN at h2 ⊢
        generalize dN 7 cd' = m at *
        cases hv : vN 7 cd' with
        | false => rw [hv] at h2; exact absurd rfl h2
        | true =>
          rw [hv, cond_true] at h2
          rw [cond_true]
          by_cases hm : 2 ≤ m ∧ m ≤ 6
          · exact ⟨if_pos hm, rfl⟩
          · rw [if_neg hm] at h2; exact absurd rfl h2
      rw [he.1, he.2, cond_true]
      exact ⟨rfl, q1 he.2⟩
def σI (k : Nat) : eV := bif Nat.beq k 19 then eR 4 else eSt k
set_option maxRecDepth 100000
theorem c_isAt2 {S : wS} {c : Nat × Nat} {x v : Int} {k L F n : Nat} {f tx : Nat → Nat} {t : Nat → Int} (hx : x = (k : Int)) (hv : v = (F : Int)) (hk : k < 30) (g12 : S 12 k = (L : Int)) (hL : L ≤ 6) (g13 : ∀ p, p < L → S 13 (k * 6 + p) = (f p : Int) ∧ f p < 26) (hF : F + L ≤ n) (hn : n ≤ 600) (ht : ∀ i, i < F + L → t i = (tx i : Int) ∧ tx i < 256) : ev m_V_isAt 0 [some (eR 11), some (eI x), some (eR 20), some (eI v)] [] (wC S ++ [eA 0 n t], c) = some (.inl (some (eI (bI (allN (fun p => decide (tx (F + p) = 97 + f p)) L)))), (wC S ++ [eA 0 n t], c)) := by
  have hl : ∀ p : Nat, p ≤ L → ∀ y : Int, y = (p : Int) → (∀ q, q < p → tx (F + q) = 97 + f q) → ev m_V_isAt 3 [some (eR 11), some (eI x), some (eR 20), some (eI v), some (eI y)] [] (wC S ++ [eA 0 n t], c) = some (.inl (some (eI (bI (allN (fun p => decide (tx (F + p) = 97 + f p)) L)))), (wC S ++ [eA 0 n t], c)) := by
    refine loop_up ?_ ?_
    · intro y hy ha
      refine xLd (N := 5) (n := 30) (i := x) (F := fun zq => ev m_V_isAt 11 [some (eR 11), some (eI x), some (eR 20), some (eI v), some (eI y)] [eI (S 12 zq), eI y] (wC S ++ [eA 0 n t], c)) (k := k) rfl (wr_nat (by omega) (by omega)) (by omega) ?_
      refine xLtF (N := 1) (x := y) (y := S 12 k) (A := ev m_V_isAt 14 [some (eR 11), some (eI x), some (eR 20), some (eI v), some (eI y)] [] (wC S ++ [eA 0 n t], c)) (B := ev m_V_isAt 46 [some (eR 11), some (eI x), some (eR 20), some (eI v), some (eI y)] [] (wC S ++ [eA 0 n t], c)) rfl (wr_id (by omega) (by omega)) (wr_id (by omega) (by omega)) (by omega) ?_
      refine xRb (N := 2) (v := 1) (w2 := (wC S ++ [eA 0 n t], c)) rfl (by decide) ?_
      exact lf (bT (allN_iff.mpr (fun q hq => decide_eq_true (ha q hq))))
    · intro p hp ih y hy ha
      have hb := g13 p hp
      have hc := ht (F + p) (by omega)
      refine xLd (N := 5) (n := 30) (i := x) (F := fun zq => ev m_V_isAt 11 [some (eR 11), some (eI x), some (eR 20), some (eI v), some (eI y)] [eI (S 12 zq), eI y] (wC S ++ [eA 0 n t], c)) (k := k) rfl (wr_nat (by omega) (by omega)) (by omega) ?_
      refine xLtT (N := 1) (x := y) (y := S 12 k) (A := ev m_V_isAt 14 [some (eR 11), some (eI x), some (eR 20), some (eI v), some (eI y)] [] (wC S ++ [eA 0 n t], c)) (B := ev m_V_isAt 46 [some (eR 11), some (eI x), some (eR 20), some (eI v), some (eI y)] [] (wC S ++ [eA 0 n t], c)) rfl (wr_id (by omega) (by omega)) (wr_id (by omega) (by omega)) (by omega) ?_
      refine xLd (N := 5) (n := n) (i := v + y) (F := fun zq => ev m_V_isAt 20 [some (eR 11), some (eI x), some (eR 20), some (eI v), some (eI y)] [eI (t zq)] (wC S ++ [eA 0 n t], c)) (k := F + p) rfl (wr_nat (by omega) (by omega)) (by omega) ?_
      refine xLd (N := 10) (n := 180) (i := (x * 6) + y) (F := fun zq => ev m_V_isAt 35 [some (eR 11), some (eI x), some (eR 20), some (eI v), some (eI y)] [eI (S 13 zq), eI ((t (F + p)) - 97)] (wC S ++ [eA 0 n t], c)) (k := (k * 6) + p) rfl (wr_nat (by omega) (by omega)) (by omega) ?_
      refine xEq (N := 1) (x := (t (F + p)) - 97) (y := S 13 ((k * 6) + p)) (A := ev m_V_isAt 40 [some (eR 11), some (eI x), some (eR 20), some (eI v), some (eI y)] [] (wC S ++ [eA 0 n t], c)) (B := ev m_V_isAt 38 [some (eR 11), some (eI x), some (eR 20), some (eI v), some (eI y)] [] (wC S ++ [eA 0 n t], c)) rfl (wr_id (by omega) (by omega)) (wr_id (by omega) (by omega)) (fun h35 => ?_) (fun h35 => ?_)
      · refine xSeg (N := 2) (r := ev m_V_isAt 3 [some (eR 11), some (eI x), some (eR 20), some (eI v), some (eI (y + 1))] [] (wC S ++ [eA 0 n t], c)) rfl ?_
        refine ih _ (by omega) (fun q hq => ?_)
        by_cases hqp : q = p
        · subst hqp; omega
        · exact ha q (by omega)
      · refine xRb (N := 2) (v := 0) (w2 := (wC S ++ [eA 0 n t], c)) rfl (by decide) ?_
        exact lf (bF (allN_F hp (decide_eq_false (by omega))))
  refine xSeg (N := 2) (r := ev m_V_isAt 3 [some (eR 11), some (eI x), some (eR 20), some (eI v), some (eI 0)] [] (wC S ++ [eA 0 n t], c)) rfl ?_
  exact hl 0 (Nat.zero_le _) _ rfl (fun k hk => absurd hk (by omega))
theorem c_find2 {S : wS} {c : Nat × Nat} {v z : Int} {m F L n : Nat} {wl tx : Nat → Nat} {f : Nat → Nat → Nat} {t : Nat → Int} (g11 : S 11 0 = (m : Int)) (hm : m ≤ 30) (g12 : ∀ k, k < m → S 12 k = (wl k : Int) ∧ wl k ≤ 6) (g13 : ∀ k p, k < m → p < wl k → S 13 (k * 6 + p) = (f k p : Int) ∧ f k p < 26) (hv : v = (F : Int)) (hz : z = (L : Int)) (hF : F + L ≤ n) (hn : n ≤ 600) (ht : ∀ i, i < F + L → t i = (tx i : Int) ∧ tx i < 256) : ev m_V_find 0 [some (eR 11), some (eR 20), some (eI v), some (eI z)] [] (wC S ++ [eA 0 n t], c) = some (.inl (some (eI (fnd (fun k => decide (wl k = L) && allN (fun p => decide (tx (F + p) = 97 + f k p)) L) m 0))), (wC S ++ [eA 0 n t], c)) := by
  have hl : ∀ p : Nat, p ≤ m → ∀ y : Int, y = ((p : Nat) : Int) → ev m_V_find 3 [some (eR 11), some (eR 20), some (eI v), some (eI z), some (eI y)] [] (wC S ++ [eA 0 n t], c) = some (.inl (some (eI (fnd (fun k => decide (wl k = L) && allN (fun p => decide (tx (F + p) = 97 + f k p)) L) (m - p) p))), (wC S ++ [eA 0 n t], c)) := by
    refine loop_up ?_ ?_
    · intro y hy
      rw [Nat.sub_self]
      refine xLtF (N := 4) (x := y) (y := S 11 0) (A := ev m_V_find 12 [some (eR 11), some (eR 20), some (eI v), some (eI z), some (eI y)] [] (wC S ++ [eA 0 n t], c)) (B := ev m_V_find 43 [some (eR 11), some (eR 20), some (eI v), some (eI z), some (eI y)] [] (wC S ++ [eA 0 n t], c)) rfl (wr_id (by omega) (by omega)) (wr_id (by omega) (by omega)) (by omega) ?_
      refine xSeg (N := 2) (r := some (.inl (some (eI (-1))), (wC S ++ [eA 0 n t], c))) rfl ?_
      rfl
    · intro p hp ih y hy
      have hb := g12 p hp
      have hc := fun q => g13 p q hp
      rw [show m - p = (m - (p + 1)) + 1 by omega]
      refine xLtT (N := 4) (x := y) (y := S 11 0) (A := ev m_V_find 12 [some (eR 11), some (eR 20), some (eI v), some (eI z), some (eI y)] [] (wC S ++ [eA 0 n t], c)) (B := ev m_V_find 43 [some (eR 11), some (eR 20), some (eI v), some (eI z), some (eI y)] [] (wC S ++ [eA 0 n t], c)) rfl (wr_id (by omega) (by omega)) (wr_id (by omega) (by omega)) (by omega) ?_
      refine xLd (N := 4) (n := 30) (i := y) (F := fun zq => ev m_V_find 19 [some (eR 11), some (eR 20), some (eI v), some (eI z), some (eI y)] [eI (S 12 zq)] (wC S ++ [eA 0 n t], c)) (k := p) rfl (wr_nat (by omega) (by omega)) (by omega) ?_
      refine xEq (N := 2) (x := S 12 p) (y := z) (A := ev m_V_find 23 [some (eR 11), some (eR 20), some (eI v), some (eI z), some (eI y)] [] (wC S ++ [eA 0 n t], c)) (B := ev m_V_find 37 [some (eR 11), some (eR 20), some (eI v), some (eI z), some (eI y)] [] (wC S ++ [eA 0 n t], c)) rfl (wr_id (by omega) (by omega)) (wr_id (by omega) (by omega)) (fun h20 => ?_) (fun h20 => ?_)
      · refine xCallWI (N := 5) (v := bI (allN (fun q => decide (tx (F + q) = 97 + f p q)) (wl p))) (M2 := m_V_find) (pc2 := 28) (ls2 := [some (eR 11), some (eR 20), some (eI v), some (eI z), some (eI y)]) (st2 := []) (y := m_V_isAt) (as := [some (eR 11), some (eI y), some (eR 20), some (eI v)]) (w2 := (wC S ++ [eA 0 n t], c)) rfl (c_isAt2 hy hv (by omega) hb.1 hb.2 hc (by omega) hn (fun i hi => ht i (by omega))) (fun r28 hr28 => ?_)
        have hq := bI_1 hr28
        have he : wl p = L := by omega
        rw [he] at hq
        refine xEq (N := 1) (x := r28) (y := 0) (A := ev m_V_find 37 [some (eR 11), some (eR 20), some (eI v), some (eI z), some (eI y)] [] (wC S ++ [eA 0 n t], c)) (B := ev m_V_find 34 [some (eR 11), some (eR 20), some (eI v), some (eI z), some (eI y)] [] (wC S ++ [eA 0 n t], c)) rfl (wr_id (by omega) (by omega)) (show wr 0 = 0 by decide) (fun h31 => ?_) (fun h31 => ?_)
        · refine xSeg (N := 2) (r := ev m_V_find 3 [some (eR 11), some (eR 20), some (eI v), some (eI z), some (eI (y + 1))] [] (wC S ++ [eA 0 n t], c)) rfl ?_
          first | exact (ih _ (by omega)).trans (by rw [fnd_F (by rw [hq.2.2.mp (by omega), Bool.and_false])]) | exact (ih _ (by omega)).trans (by rw [fnd_F (by rw [decide_eq_false (by omega), Bool.false_and])])
        · refine xSeg (N := 2) (r := some (.inl (some (eI y)), (wC S ++ [eA 0 n t], c))) rfl ?_
          rw [fnd_T (by simp only [Bool.and_eq_true]; exact ⟨decide_eq_true he, hq.2.1.mp (by omega)⟩), hy]
      · refine xSeg (N := 2) (r := ev m_V_find 3 [some (eR 11), some (eR 20), some (eI v), some (eI z), some (eI (y + 1))] [] (wC S ++ [eA 0 n t], c)) rfl ?_
        first | exact (ih _ (by omega)).trans (by rw [fnd_F (by rw [hq.2.2.mp (by omega), Bool.and_false])]) | exact (ih _ (by omega)).trans (by rw [fnd_F (by rw [decide_eq_false (by omega), Bool.false_and])])
  refine xSeg (N := 2) (r := ev m_V_find 3 [some (eR 11), some (eR 20), some (eI v), some (eI z), some (eI 0)] [] (wC S ++ [eA 0 n t], c)) rfl ?_
  exact hl 0 (Nat.zero_le _) _ rfl
theorem nin35 {k : Nat} (h3 : k ≠ 3) (h5 : k ≠ 5) : ninL k [3, 5] = true := ninL_iff (fun x hx => by
  simp only [List.mem_cons, List.not_mem_nil, or_false] at hx
  omega)
theorem i_spell {V : List eC} {d : Nat × Nat} {a : eRow} {X : xT} {x : Int} (bx : -2147483648 ≤ x ∧ x < 2147483648) (C : CI V a X) : ∃ (V' : List eC) (v ln : Int) (sp : Nat → Int), ev m_I_spell 0 [some (eR 3), some (eI x)] [] (V, d) = some (.inl (some (eI v)), (V', d)) ∧ CI V' a X ∧ sb V V' [3, 5] ∧ eNth V' 3 = some (eO 2 [eR 4, eI ln, eR 5]) ∧ eNth V' 5 = some (eA 0 6 sp) ∧ ((∀ cd : Nat, x = (cd : Int) → loN cd = 0) → v < 2 ∧ 0 ≤ v) ∧ (∀ cd : Nat, x = (cd : Int) → loN cd ≠ 0 → v = ((loN cd : Nat) : Int) ∧ ∀ p, p < loN cd → sp p = ((96 + cd / 32 ^ (loN cd - 1 - p) % 32 : Nat) : Int)) := by
  obtain ⟨c1, c2, c3, ⟨Pp, bY, sp, Sp, ln, ⟨b2, b3, b4, b5⟩, wp, lb, er⟩, c5⟩ := C
  obtain ⟨v, sp', z1, z2, q⟩ := sp_any (t := sp) (ln := ln) bx
  obtain ⟨V', e1, ⟨e2, e3, -⟩, e4⟩ := xAtR (σ := σI) (α := [3, 5]) (V := V) (d := d) (as' := [some (eR 3), some (eI x)]) (o' := .inl (some (eI v))) q ⟨b3, b5, trivial⟩ rfl rfl rfl rfl rfl rfl rfl rfl
  have hf : ∀ k, k ≠ 3 → k ≠ 5 → eNth V' k = eNth V k := fun k h1 h2 => e4.2 k (nin35 h1 h2)
  exact ⟨V', v, ln, sp', e1, ⟨CW_fr (fun k hk => hf k (by omega) (by omega)) c1, CT_fr (fun k hk => hf k (by omega) (by omega)) c2, CH_fr (Nat.le_of_eq e4.1.symm) (fun k hk => hf k (by omega) (by omega)) c3, ⟨Pp, bY, sp', Sp, ln, ⟨(hf 2 (by omega) (by omega)).trans b2, e2, (hf 4 (by omega) (by omega)).trans b4, e3⟩, wat_fr wp (fun i hi => hf _ (by show 6 + i ≠ 3; omega) (by show 6 + i ≠ 5; omega)), lb, er⟩, CO_fr (fun k hk => hf k (by omega) (by omega)) c5⟩, e4, e2, e3, z1, z2⟩
/-- a word that is spelled: found, added -/
theorem w_fnd {V : List eC} {d : Nat × Nat} {a : eRow} {S : wS} {sp : Nat → Int} {v w : Int} {cd : Nat} (hA : wA S a) (hI : iA a) (hw : winAt V bC S) (h5 : eNth V 5 = some (eA 0 6 sp)) (hc : cdOk cd (loN cd)) (hv : v = ((loN cd : Nat) : Int)) (hs : ∀ p, p < loN cd → sp p = ((96 + cd / 32 ^ (loN cd - 1 - p) % 32 : Nat) : Int)) (hwv : w = fnd (fun k => decide (a (88 + k) = cd)) (a 2) 0) : ev m_V_find 0 [some (eR 37), some (eR 5), some (eI 0), some (eI v)] [] (V, d) = some (.inl (some (eI w)), (V, d)) := by
  have iV9 := hI.2.1
  have hV := hA.2.1
  have h6 := hc.2.1
  have hq := c_find2 (S := S) (c := (0, 0)) (m := a 2) (F := 0) (L := loN cd) (n := 6) (v := 0) (z := v) (wl := wl a) (f := lt a) (tx := fun i => 96 + cd / 32 ^ (loN cd - 1 - i) % 32) (t := sp) hV.1 iV9.1 (fun k hk => ⟨hV.2.1 k hk, (iV9.2 k hk).2.1⟩) (fun k p hk hp => ⟨hV.2.2.1 k p hk hp, lt_26 iV9 hk hp⟩) rfl hv (by omega) (by omega) (fun i hi => ⟨hs i (by omega), by
    have := Nat.mod_lt (cd / 32 ^ (loN cd - 1 - i)) (show 0 < 32 by decide)
    omega⟩)
  rw [← fnd_cong (fun k _ hk => wd_eqc iV9 (by omega) hc), ← hwv] at hq
  exact xAtV (σ := eSt) (α := wLf bC ++ [5]) hq (atL_app (as := wLf bC) (bs := [5]) (cs := wCf bC S) (ds := [eA 0 6 sp]) hw ⟨h5, trivial⟩) rfl rfl rfl rfl rfl rfl
theorem w_put {V : List eC} {d : Nat × Nat} {a : eRow} {S : wS} {sp : Nat → Int} {v : Int} {cd : Nat} (hA : wA S a) (hI : iA a) (h30 : a 2 < 30) (hw : winAt V bC S) (h5 : eNth V 5 = some (eA 0 6 sp)) (hc : cdOk cd (loN cd)) (hv : v = ((loN cd : Nat) : Int)) (hs : ∀ p, p < loN cd → sp p = ((96 + cd / 32 ^ (loN cd - 1 - p) % 32 : Nat) : Int)) : ∃ (V' : List eC) (S' : wS), ev m_W_putWord 0 [some (eR 26), some (eR 5), some (eI 0), some (eI v)] [] (V, d) = some (.inl none, (V', d)) ∧ winAt V' bC S' ∧ wA S' (adA a cd (loN cd)) ∧ sb V V' (wLf bC) := by
  have h6 := hc.2.1
  obtain ⟨S', q1, q2⟩ := c_putWord (S := S) (F := 0) (n := 6) (v := 0) (z := v) (t := sp) hA hI h30 hc rfl hv (by omega) (by omega) (fun p hp => by rw [Nat.zero_add]; exact hs p hp)
  obtain ⟨V', e1, e2, e3⟩ := xAtR (σ := eSt) (α := wLf bC ++ [5]) (V := V) (d := d) (as' := [some (eR 26), some (eR 5), some (eI 0), some (eI v)]) (o' := .inl none) q2 (atL_app (as := wLf bC) (bs := [5]) (cs := wCf bC S) (ds := [eA 0 6 sp]) hw ⟨h5, trivial⟩) rfl rfl rfl rfl rfl rfl rfl rfl
  have e2' : atL V' (wLf bC ++ [5]) (wCf bC S' ++ [eA 0 6 sp]) := e2
  have f5 := (atL_rt (as := wLf bC) (cs := wCf bC S') rfl e2').1
  refine ⟨V', S', e1, atL_lf (as := wLf bC) (cs := wCf bC S') rfl e2', q1, e3.1, fun k hk => ?_⟩
  by_cases hk5 : k = 5
  · subst hk5; exact f5.trans h5.symm
  · exact e3.2 k (ninL_app hk (ninL_iff (fun x hx => by have := List.mem_singleton.mp hx; omega)))
theorem sc_addWord {a : eRow} {X : xT} {x : Int} {v : Int} {cd : Nat} (hx : x = (cd : Int)) (hc : cd < 2147483648) (hl : loN cd ≠ 0) (h30 : a 2 < 30) (hf : fnd (fun k => decide (a (88 + k) = cd)) (a 2) 0 = -1) (hv : v = ((a 2 : Nat) : Int)) : SC m_S_addWord [some (eI x)] a X (adA a cd (loN cd)) (pushX X a) v := by
  intro V d ot C h81
  have C8 := C
  obtain ⟨⟨S, w1, w2, w3, w4⟩, c2, c3, c4, c5⟩ := C
  have cc3 := c3
  obtain ⟨wd9, f9, q9, hN9, hC9, nx9, ⟨h66, h67, h68⟩, hb9⟩ := cc3
  have cc5 := c5
  obtain ⟨P, oY, o1, o69, o7⟩ := cc5
  have hI := w3
  have hI8 := hI
  obtain ⟨hG, ⟨v1, v2⟩, hO, hT, hM⟩ := hI8
  obtain ⟨⟨g1, g2, g3, g4, g5⟩, g6⟩ := hG
  have b5 := iT_24 g5 hT
  have bx : -2147483648 ≤ x ∧ x < 2147483648 := by omega
  obtain ⟨V1, v1_, ln1, sp1, q1, C1, s1, k3, k5, z1, z2⟩ := i_spell (d := d) bx C8
  have o11 := (s1.2 1 rfl).trans o1
  have h811 := (s1.2 81 rfl).trans h81
  have h661 := (s1.2 66 rfl).trans h66
  have w11 : winAt V1 bC S := wat_fr w1 (fun j hj => s1.2 _ (nin35 (by show 26 + j ≠ 3; omega) (by show 26 + j ≠ 5; omega)))
  have h661 := (s1.2 66 rfl).trans h66
  obtain ⟨Pq, bYq, spq, Spq, lnq, ⟨b2, b3, b4, b5q⟩, wpq⟩ := c4
  obtain ⟨z3, z4⟩ := z2 cd hx hl
  have hok := loN_ok hc hl
  have hok1 := hok.1
  have hok2 := hok.2.1
  have s110 : S 11 0 = _ := w2.2.1.1
  have hfd := fun w hw => w_fnd (d := d) (w := w) w2 w3 w11 k5 hok z3 z4 hw
  have hf1 := hfd (-1) hf.symm
  obtain ⟨V2, d2, qr, C2, l2, f2, dd1, dd2⟩ := h_rem (d := d) C1
  have o12 := (f2 1 (by omega)).trans o11
  have h812 := (f2 81 (by omega)).trans h811
  have k32 := (f2 3 (by omega)).trans k3
  have k52 := (f2 5 (by omega)).trans k5
  have C28 := C2
  obtain ⟨⟨S2, w12, w22, w32, w42⟩, C2r⟩ := C28
  obtain ⟨V3, S3, e1, e2, hA3, e3⟩ := w_put (d := d2) w22 w32 h30 w12 k52 hok z3 z4
  have o13 := (e3.2 1 (nin_bC (by omega))).trans o12
  have C3 := CI_win C2 e2 hA3 ⟨iA_ad hI h30 hok, iB_ad h30 w42⟩ e3
  have m03 : S3 11 0 = _ := hA3.2.1.1
  have ead : adA a cd (loN cd) 2 = a 2 + 1 := (bgA_2 (wd1 a cd (loN cd))).trans wd1_2
  rw [ead] at m03
  obtain ⟨z9, hz9⟩ : ∃ z9 : Int, z9 = S3 11 0 := ⟨_, rfl⟩
  have e37 : eNth V3 37 = some (eO 5 [eI (S3 11 0), eR 38, eR 39, eR 40]) := e2.2.2.2.2.2.2.2.2.2.2.2.1
  rw [← hz9] at e37
  refine rSC ?_
  refine rOf (fun R9 hR9 => xGetV (N := 2) (M2 := m_S_addWord) (pc2 := 1) (r := 1) (ls2 := [some (eR 1), some (eI x)]) (st2 := []) (V := V) (d := d) (v := eR 3) rfl o1 rfl hR9) ?_
  refine rOf (fun R9 hR9 => xCallA1 (N := 2) (M2 := m_S_addWord) (pc2 := 5) (y := m_I_spell) (n := 2) (ls2 := [some (eR 1), some (eI x)]) (st2 := []) (st9 := [eI x, eR 3]) (V := V) (d := d) (r := 3) (bs := [eI x]) rfl rfl b3 rfl q1 hR9) ?_
  refine rOf (fun R9 hR9 => xLtF (N := 4) (x := v1_) (y := 2) (A := ev m_S_addWord 14 [some (eR 1), some (eI x), some (eI v1_)] [] (V1, d)) (B := ev m_S_addWord 22 [some (eR 1), some (eI x), some (eI v1_)] [] (V1, d)) rfl (wr_id (by omega) (by omega)) (show wr 2 = 2 by decide) (by omega) hR9) ?_
  refine rOf (fun R9 hR9 => xGetV (N := 2) (M2 := m_S_addWord) (pc2 := 23) (r := 1) (ls2 := [some (eR 1), some (eI x), some (eI v1_)]) (st2 := []) (V := V1) (d := d) (v := eR 26) rfl o11 rfl hR9) ?_
  refine rOf (fun R9 hR9 => xGetV (N := 1) (M2 := m_S_addWord) (pc2 := 26) (r := 26) (ls2 := [some (eR 1), some (eI x), some (eI v1_)]) (st2 := []) (V := V1) (d := d) (v := eR 37) rfl (winAt_obj w11) rfl hR9) ?_
  refine rOf (fun R9 hR9 => xGetV (N := 3) (M2 := m_S_addWord) (pc2 := 31) (r := 37) (ls2 := [some (eR 1), some (eI x), some (eI v1_), some (eR 37)]) (st2 := []) (V := V1) (d := d) (v := eI (S 11 0)) rfl w11.2.2.2.2.2.2.2.2.2.2.2.1 rfl hR9) ?_
  refine rOf (fun R9 hR9 => xLtT (N := 2) (x := (S 11 0)) (y := 30) (A := ev m_S_addWord 39 [some (eR 1), some (eI x), some (eI v1_), some (eR 37)] [] (V1, d)) (B := ev m_S_addWord 56 [some (eR 1), some (eI x), some (eI v1_), some (eR 37)] [] (V1, d)) rfl (wr_id (by omega) (by omega)) (show wr 30 = 30 by decide) (by omega) hR9) ?_
  refine rOf (fun R9 hR9 => xGetV (N := 3) (M2 := m_S_addWord) (pc2 := 41) (r := 1) (ls2 := [some (eR 1), some (eI x), some (eI v1_), some (eR 37)]) (st2 := [eR 37]) (V := V1) (d := d) (v := eR 3) rfl o11 rfl hR9) ?_
  refine rOf (fun R9 hR9 => xGetV (N := 1) (M2 := m_S_addWord) (pc2 := 44) (r := 3) (ls2 := [some (eR 1), some (eI x), some (eI v1_), some (eR 37)]) (st2 := [eR 37]) (V := V1) (d := d) (v := eR 5) rfl k3 rfl hR9) ?_
  refine rOf (fun R9 hR9 => xCallA1 (N := 3) (M2 := m_S_addWord) (pc2 := 49) (y := m_V_find) (n := 4) (ls2 := [some (eR 1), some (eI x), some (eI v1_), some (eR 37)]) (st2 := []) (st9 := [eI v1_, eI 0, eR 5, eR 37]) (V := V1) (d := d) (r := 37) (bs := [eR 5, eI 0, eI v1_]) rfl rfl w11.2.2.2.2.2.2.2.2.2.2.2.1 rfl hf1 hR9) ?_
  refine rOf (fun R9 hR9 => xEqT (N := 2) (x := (-1)) (y := (-1)) (A := ev m_S_addWord 64 [some (eR 1), some (eI x), some (eI v1_), some (eR 37)] [] (V1, d)) (B := ev m_S_addWord 56 [some (eR 1), some (eI x), some (eI v1_), some (eR 37)] [] (V1, d)) rfl (show wr (-1) = (-1) by decide) (show wr (-1) = (-1) by decide) (by decide) hR9) ?_
  refine rOf (fun R9 hR9 => xGetV (N := 2) (M2 := m_S_addWord) (pc2 := 65) (r := 1) (ls2 := [some (eR 1), some (eI x), some (eI v1_), some (eR 37)]) (st2 := []) (V := V1) (d := d) (v := eR 66) rfl o11 rfl hR9) ?_
  refine rOf (fun R9 hR9 => xGetV (N := 2) (M2 := m_S_addWord) (pc2 := 69) (r := 1) (ls2 := [some (eR 1), some (eI x), some (eI v1_), some (eR 37)]) (st2 := [eR 66]) (V := V1) (d := d) (v := eR 26) rfl o11 rfl hR9) ?_
  refine rOf (fun R9 hR9 => xCallA0 (N := 1) (M2 := m_S_addWord) (pc2 := 72) (y := m_H_remember) (n := 2) (ls2 := [some (eR 1), some (eI x), some (eI v1_), some (eR 37)]) (st2 := []) (st9 := [eR 26, eR 66]) (V := V1) (d := d) (r := 66) (bs := [eR 26]) rfl rfl h661 rfl qr hR9) ?_
  refine rOf (fun R9 hR9 => xGetV (N := 2) (M2 := m_S_addWord) (pc2 := 76) (r := 1) (ls2 := [some (eR 1), some (eI x), some (eI v1_), some (eR 37)]) (st2 := []) (V := V2) (d := d2) (v := eR 26) rfl o12 rfl hR9) ?_
  refine rOf (fun R9 hR9 => xGetV (N := 2) (M2 := m_S_addWord) (pc2 := 80) (r := 1) (ls2 := [some (eR 1), some (eI x), some (eI v1_), some (eR 37)]) (st2 := [eR 26]) (V := V2) (d := d2) (v := eR 3) rfl o12 rfl hR9) ?_
  refine rOf (fun R9 hR9 => xGetV (N := 1) (M2 := m_S_addWord) (pc2 := 83) (r := 3) (ls2 := [some (eR 1), some (eI x), some (eI v1_), some (eR 37)]) (st2 := [eR 26]) (V := V2) (d := d2) (v := eR 5) rfl k32 rfl hR9) ?_
  refine rOf (fun R9 hR9 => xCallA0 (N := 3) (M2 := m_S_addWord) (pc2 := 88) (y := m_W_putWord) (n := 4) (ls2 := [some (eR 1), some (eI x), some (eI v1_), some (eR 37)]) (st2 := []) (st9 := [eI v1_, eI 0, eR 5, eR 26]) (V := V2) (d := d2) (r := 26) (bs := [eR 5, eI 0, eI v1_]) rfl rfl (winAt_obj w12) rfl e1 hR9) ?_
  refine rOf (fun R9 hR9 => xGetV (N := 2) (M2 := m_S_addWord) (pc2 := 92) (r := 37) (ls2 := [some (eR 1), some (eI x), some (eI v1_), some (eR 37)]) (st2 := []) (V := V3) (d := d2) (v := eI z9) rfl e37 rfl hR9) ?_
  refine rOf (fun R9 hR9 => xSeg (N := 3) (r := some (.inl (some (eI (z9 - 1))), (V3, d2))) rfl hR9) ?_
  exact rEnd ⟨V3, d2, by rw [show z9 - 1 = v by omega], C3, (e3.2 81 (nin_bC (by omega))).trans h812, ⟨by have := e3.1; have := s1.1; omega, fun k hk => (e3.2 k (nin_bC (by omega))).trans ((f2 k (by omega)).trans (s1.2 k (nin35 (by omega) (by omega))))⟩, by omega, by omega⟩
theorem sc_addWordF {a : eRow} {X : xT} {x : Int} {cd : Nat} (hx : x = (cd : Int)) (hc : cd < 2147483648) (hl : loN cd ≠ 0) (h30 : a 2 < 30) (hf : fnd (fun k => decide (a (88 + k) = cd)) (a 2) 0 ≠ -1) : SX m_S_addWord [some (eI x)] a X (X) 0 := by
  intro V d ot C h81
  have C8 := C
  obtain ⟨⟨S, w1, w2, w3, w4⟩, c2, c3, c4, c5⟩ := C
  have cc3 := c3
  obtain ⟨wd9, f9, q9, hN9, hC9, nx9, ⟨h66, h67, h68⟩, hb9⟩ := cc3
  have cc5 := c5
  obtain ⟨P, oY, o1, o69, o7⟩ := cc5
  have hI := w3
  have hI8 := hI
  obtain ⟨hG, ⟨v1, v2⟩, hO, hT, hM⟩ := hI8
  obtain ⟨⟨g1, g2, g3, g4, g5⟩, g6⟩ := hG
  have b5 := iT_24 g5 hT
  have bx : -2147483648 ≤ x ∧ x < 2147483648 := by omega
  obtain ⟨V1, v1_, ln1, sp1, q1, C1, s1, k3, k5, z1, z2⟩ := i_spell (d := d) bx C8
  have o11 := (s1.2 1 rfl).trans o1
  have h811 := (s1.2 81 rfl).trans h81
  have h661 := (s1.2 66 rfl).trans h66
  have w11 : winAt V1 bC S := wat_fr w1 (fun j hj => s1.2 _ (nin35 (by show 26 + j ≠ 3; omega) (by show 26 + j ≠ 5; omega)))
  have h661 := (s1.2 66 rfl).trans h66
  obtain ⟨Pq, bYq, spq, Spq, lnq, ⟨b2, b3, b4, b5q⟩, wpq⟩ := c4
  obtain ⟨z3, z4⟩ := z2 cd hx hl
  have hok := loN_ok hc hl
  have hok1 := hok.1
  have hok2 := hok.2.1
  have s110 : S 11 0 = _ := w2.2.1.1
  have hfd := fun w hw => w_fnd (d := d) (w := w) w2 w3 w11 k5 hok z3 z4 hw
  obtain ⟨w9, hw9⟩ : ∃ w9 : Int, w9 = fnd (fun k => decide (a (88 + k) = cd)) (a 2) 0 := ⟨_, rfl⟩
  have hf1 := hfd w9 hw9
  rw [← hw9] at hf
  have bw := fnd_b (p := fun k => decide (a (88 + k) = cd)) (d := a 2) (k := 0)
  rw [← hw9] at bw
  refine rSX ?_
  refine rOf (fun R9 hR9 => xGetV (N := 2) (M2 := m_S_addWord) (pc2 := 1) (r := 1) (ls2 := [some (eR 1), some (eI x)]) (st2 := []) (V := V) (d := d) (v := eR 3) rfl o1 rfl hR9) ?_
  refine rOf (fun R9 hR9 => xCallA1 (N := 2) (M2 := m_S_addWord) (pc2 := 5) (y := m_I_spell) (n := 2) (ls2 := [some (eR 1), some (eI x)]) (st2 := []) (st9 := [eI x, eR 3]) (V := V) (d := d) (r := 3) (bs := [eI x]) rfl rfl b3 rfl q1 hR9) ?_
  refine rOf (fun R9 hR9 => xLtF (N := 4) (x := v1_) (y := 2) (A := ev m_S_addWord 14 [some (eR 1), some (eI x), some (eI v1_)] [] (V1, d)) (B := ev m_S_addWord 22 [some (eR 1), some (eI x), some (eI v1_)] [] (V1, d)) rfl (wr_id (by omega) (by omega)) (show wr 2 = 2 by decide) (by omega) hR9) ?_
  refine rOf (fun R9 hR9 => xGetV (N := 2) (M2 := m_S_addWord) (pc2 := 23) (r := 1) (ls2 := [some (eR 1), some (eI x), some (eI v1_)]) (st2 := []) (V := V1) (d := d) (v := eR 26) rfl o11 rfl hR9) ?_
  refine rOf (fun R9 hR9 => xGetV (N := 1) (M2 := m_S_addWord) (pc2 := 26) (r := 26) (ls2 := [some (eR 1), some (eI x), some (eI v1_)]) (st2 := []) (V := V1) (d := d) (v := eR 37) rfl (winAt_obj w11) rfl hR9) ?_
  refine rOf (fun R9 hR9 => xGetV (N := 3) (M2 := m_S_addWord) (pc2 := 31) (r := 37) (ls2 := [some (eR 1), some (eI x), some (eI v1_), some (eR 37)]) (st2 := []) (V := V1) (d := d) (v := eI (S 11 0)) rfl w11.2.2.2.2.2.2.2.2.2.2.2.1 rfl hR9) ?_
  refine rOf (fun R9 hR9 => xLtT (N := 2) (x := (S 11 0)) (y := 30) (A := ev m_S_addWord 39 [some (eR 1), some (eI x), some (eI v1_), some (eR 37)] [] (V1, d)) (B := ev m_S_addWord 56 [some (eR 1), some (eI x), some (eI v1_), some (eR 37)] [] (V1, d)) rfl (wr_id (by omega) (by omega)) (show wr 30 = 30 by decide) (by omega) hR9) ?_
  refine rOf (fun R9 hR9 => xGetV (N := 3) (M2 := m_S_addWord) (pc2 := 41) (r := 1) (ls2 := [some (eR 1), some (eI x), some (eI v1_), some (eR 37)]) (st2 := [eR 37]) (V := V1) (d := d) (v := eR 3) rfl o11 rfl hR9) ?_
  refine rOf (fun R9 hR9 => xGetV (N := 1) (M2 := m_S_addWord) (pc2 := 44) (r := 3) (ls2 := [some (eR 1), some (eI x), some (eI v1_), some (eR 37)]) (st2 := [eR 37]) (V := V1) (d := d) (v := eR 5) rfl k3 rfl hR9) ?_
  refine rOf (fun R9 hR9 => xCallA1 (N := 3) (M2 := m_S_addWord) (pc2 := 49) (y := m_V_find) (n := 4) (ls2 := [some (eR 1), some (eI x), some (eI v1_), some (eR 37)]) (st2 := []) (st9 := [eI v1_, eI 0, eR 5, eR 37]) (V := V1) (d := d) (r := 37) (bs := [eR 5, eI 0, eI v1_]) rfl rfl w11.2.2.2.2.2.2.2.2.2.2.2.1 rfl hf1 hR9) ?_
  refine rOf (fun R9 hR9 => xEqF (N := 2) (x := w9) (y := (-1)) (A := ev m_S_addWord 64 [some (eR 1), some (eI x), some (eI v1_), some (eR 37)] [] (V1, d)) (B := ev m_S_addWord 56 [some (eR 1), some (eI x), some (eI v1_), some (eR 37)] [] (V1, d)) rfl (wr_id (by omega) (by omega)) (show wr (-1) = (-1) by decide) (by omega) hR9) ?_
  refine rOf (fun R9 hR9 => xSeg (N := 1) (r := some (.inr 0, (V1, (d.1 + 1, d.2 + 6)))) rfl hR9) ?_
  exact rEnd ⟨V1, (d.1 + 1, d.2 + 6), rfl, C1, h811, ⟨Nat.le_of_eq s1.1.symm, fun k hk => s1.2 k (nin35 (by omega) (by omega))⟩, by dsimp only; omega, by dsimp only; omega⟩
theorem sc_addWordM {a : eRow} {X : xT} {x : Int} {cd : Nat} (hx : x = (cd : Int)) (hc : cd < 2147483648) (hl : loN cd ≠ 0) (h30 : a 2 = 30) : SX m_S_addWord [some (eI x)] a X (X) 0 := by
  intro V d ot C h81
  have C8 := C
  obtain ⟨⟨S, w1, w2, w3, w4⟩, c2, c3, c4, c5⟩ := C
  have cc3 := c3
  obtain ⟨wd9, f9, q9, hN9, hC9, nx9, ⟨h66, h67, h68⟩, hb9⟩ := cc3
  have cc5 := c5
  obtain ⟨P, oY, o1, o69, o7⟩ := cc5
  have hI := w3
  have hI8 := hI
  obtain ⟨hG, ⟨v1, v2⟩, hO, hT, hM⟩ := hI8
  obtain ⟨⟨g1, g2, g3, g4, g5⟩, g6⟩ := hG
  have b5 := iT_24 g5 hT
  have bx : -2147483648 ≤ x ∧ x < 2147483648 := by omega
  obtain ⟨V1, v1_, ln1, sp1, q1, C1, s1, k3, k5, z1, z2⟩ := i_spell (d := d) bx C8
  have o11 := (s1.2 1 rfl).trans o1
  have h811 := (s1.2 81 rfl).trans h81
  have h661 := (s1.2 66 rfl).trans h66
  have w11 : winAt V1 bC S := wat_fr w1 (fun j hj => s1.2 _ (nin35 (by show 26 + j ≠ 3; omega) (by show 26 + j ≠ 5; omega)))
  have h661 := (s1.2 66 rfl).trans h66
  obtain ⟨Pq, bYq, spq, Spq, lnq, ⟨b2, b3, b4, b5q⟩, wpq⟩ := c4
  obtain ⟨z3, z4⟩ := z2 cd hx hl
  have hok := loN_ok hc hl
  have hok1 := hok.1
  have hok2 := hok.2.1
  have s110 : S 11 0 = _ := w2.2.1.1
  have hfd := fun w hw => w_fnd (d := d) (w := w) w2 w3 w11 k5 hok z3 z4 hw
  refine rSX ?_
  refine rOf (fun R9 hR9 => xGetV (N := 2) (M2 := m_S_addWord) (pc2 := 1) (r := 1) (ls2 := [some (eR 1), some (eI x)]) (st2 := []) (V := V) (d := d) (v := eR 3) rfl o1 rfl hR9) ?_
  refine rOf (fun R9 hR9 => xCallA1 (N := 2) (M2 := m_S_addWord) (pc2 := 5) (y := m_I_spell) (n := 2) (ls2 := [some (eR 1), some (eI x)]) (st2 := []) (st9 := [eI x, eR 3]) (V := V) (d := d) (r := 3) (bs := [eI x]) rfl rfl b3 rfl q1 hR9) ?_
  refine rOf (fun R9 hR9 => xLtF (N := 4) (x := v1_) (y := 2) (A := ev m_S_addWord 14 [some (eR 1), some (eI x), some (eI v1_)] [] (V1, d)) (B := ev m_S_addWord 22 [some (eR 1), some (eI x), some (eI v1_)] [] (V1, d)) rfl (wr_id (by omega) (by omega)) (show wr 2 = 2 by decide) (by omega) hR9) ?_
  refine rOf (fun R9 hR9 => xGetV (N := 2) (M2 := m_S_addWord) (pc2 := 23) (r := 1) (ls2 := [some (eR 1), some (eI x), some (eI v1_)]) (st2 := []) (V := V1) (d := d) (v := eR 26) rfl o11 rfl hR9) ?_
  refine rOf (fun R9 hR9 => xGetV (N := 1) (M2 := m_S_addWord) (pc2 := 26) (r := 26) (ls2 := [some (eR 1), some (eI x), some (eI v1_)]) (st2 := []) (V := V1) (d := d) (v := eR 37) rfl (winAt_obj w11) rfl hR9) ?_
  refine rOf (fun R9 hR9 => xGetV (N := 3) (M2 := m_S_addWord) (pc2 := 31) (r := 37) (ls2 := [some (eR 1), some (eI x), some (eI v1_), some (eR 37)]) (st2 := []) (V := V1) (d := d) (v := eI (S 11 0)) rfl w11.2.2.2.2.2.2.2.2.2.2.2.1 rfl hR9) ?_
  refine rOf (fun R9 hR9 => xLtF (N := 2) (x := (S 11 0)) (y := 30) (A := ev m_S_addWord 39 [some (eR 1), some (eI x), some (eI v1_), some (eR 37)] [] (V1, d)) (B := ev m_S_addWord 56 [some (eR 1), some (eI x), some (eI v1_), some (eR 37)] [] (V1, d)) rfl (wr_id (by omega) (by omega)) (show wr 30 = 30 by decide) (by omega) hR9) ?_
  refine rOf (fun R9 hR9 => xSeg (N := 1) (r := some (.inr 0, (V1, (d.1 + 1, d.2 + 6)))) rfl hR9) ?_
  exact rEnd ⟨V1, (d.1 + 1, d.2 + 6), rfl, C1, h811, ⟨Nat.le_of_eq s1.1.symm, fun k hk => s1.2 k (nin35 (by omega) (by omega))⟩, by dsimp only; omega, by dsimp only; omega⟩
theorem sc_addWordX {a : eRow} {X : xT} {x : Int} (bx : -2147483648 ≤ x ∧ x < 2147483648) (hl : ∀ cd : Nat, x = (cd : Int) → loN cd = 0) : SX m_S_addWord [some (eI x)] a X (X) 1 := by
  intro V d ot C h81
  have C8 := C
  obtain ⟨⟨S, w1, w2, w3, w4⟩, c2, c3, c4, c5⟩ := C
  have cc3 := c3
  obtain ⟨wd9, f9, q9, hN9, hC9, nx9, ⟨h66, h67, h68⟩, hb9⟩ := cc3
  have cc5 := c5
  obtain ⟨P, oY, o1, o69, o7⟩ := cc5
  have hI := w3
  have hI8 := hI
  obtain ⟨hG, ⟨v1, v2⟩, hO, hT, hM⟩ := hI8
  obtain ⟨⟨g1, g2, g3, g4, g5⟩, g6⟩ := hG
  have b5 := iT_24 g5 hT
  obtain ⟨V1, v1_, ln1, sp1, q1, C1, s1, k3, k5, z1, z2⟩ := i_spell (d := d) bx C8
  have o11 := (s1.2 1 rfl).trans o1
  have h811 := (s1.2 81 rfl).trans h81
  have h661 := (s1.2 66 rfl).trans h66
  have w11 : winAt V1 bC S := wat_fr w1 (fun j hj => s1.2 _ (nin35 (by show 26 + j ≠ 3; omega) (by show 26 + j ≠ 5; omega)))
  have h661 := (s1.2 66 rfl).trans h66
  obtain ⟨Pq, bYq, spq, Spq, lnq, ⟨b2, b3, b4, b5q⟩, wpq⟩ := c4
  have z3 := z1 hl
  refine rSX ?_
  refine rOf (fun R9 hR9 => xGetV (N := 2) (M2 := m_S_addWord) (pc2 := 1) (r := 1) (ls2 := [some (eR 1), some (eI x)]) (st2 := []) (V := V) (d := d) (v := eR 3) rfl o1 rfl hR9) ?_
  refine rOf (fun R9 hR9 => xCallA1 (N := 2) (M2 := m_S_addWord) (pc2 := 5) (y := m_I_spell) (n := 2) (ls2 := [some (eR 1), some (eI x)]) (st2 := []) (st9 := [eI x, eR 3]) (V := V) (d := d) (r := 3) (bs := [eI x]) rfl rfl b3 rfl q1 hR9) ?_
  refine rOf (fun R9 hR9 => xLtT (N := 4) (x := v1_) (y := 2) (A := ev m_S_addWord 14 [some (eR 1), some (eI x), some (eI v1_)] [] (V1, d)) (B := ev m_S_addWord 22 [some (eR 1), some (eI x), some (eI v1_)] [] (V1, d)) rfl (wr_id (by omega) (by omega)) (show wr 2 = 2 by decide) (by omega) hR9) ?_
  refine rOf (fun R9 hR9 => xSeg (N := 1) (r := some (.inr 1, (V1, (d.1 + 1, d.2 + 6)))) rfl hR9) ?_
  exact rEnd ⟨V1, (d.1 + 1, d.2 + 6), rfl, C1, h811, ⟨Nat.le_of_eq s1.1.symm, fun k hk => s1.2 k (nin35 (by omega) (by omega))⟩, by dsimp only; omega, by dsimp only; omega⟩
theorem kl_addWord {a a' : eRow} {X X' : xT} {x v : Int} (h : SC m_S_addWord [some (eI x)] a X a' X' v) : KL m_L_addWord [some (eI x)] a X a' X' 0 v := by
  intro V d ot C h81
  obtain ⟨P1, h1⟩ := CI_1 C
  refine rKL ?_
  obtain ⟨V2, d2, q2, C2, o2, fr2, dd1, dd2⟩ := h V d ot C h81
  obtain ⟨P2, h12⟩ := CI_1 C2
  refine rOf (fun R9 hR9 => xCallA1 (N := 5) (M2 := m_L_addWord) (pc2 := 4) (y := m_S_addWord) (n := 2) (ls2 := [some (eR 1), some (eI x), some (eR 81)]) (st2 := [eI 0, eR 81]) (st9 := [eI x, eR 1, eI 0, eR 81]) (V := V) (d := d) (r := 1) (bs := [eI x]) rfl rfl h1 rfl q2 hR9) ?_
  refine rStV (N := 2) (M2 := m_L_addWord) (pc2 := 8) (r := 81) (ls2 := [some (eR 1), some (eI x), some (eR 81)]) (st2 := []) (V := V2) (d := d2) (i := 0) (v := wr v) (k := 0) (ok := eOkJ) rfl o2 rfl (show wr 0 = ((0 : Nat) : Int) by decide) (by omega) (fun V101 sV101 eV101 => ?_)
  refine rOf (fun R9 hR9 => xSeg (N := 3) (r := some (.inl (some (eI 0)), (V101, d2))) rfl hR9) ?_
  exact rEnd ⟨V101, _, d2, rfl, CI_81 C2 sV101, eV101, fun _ => by rw [eUp_at], frC_81 fr2 sV101, by unfold dl; omega⟩
theorem kl_addWordX1 {a : eRow} {X X' : xT} {x v : Int} (h : SX m_S_addWord [some (eI x)] a X X' 1) : KL m_L_addWord [some (eI x)] a X a X' 1 v := by
  intro V d ot C h81
  obtain ⟨P1, h1⟩ := CI_1 C
  refine rKL ?_
  obtain ⟨V2, d2, q2, C2, o2, fr2, dd1, dd2⟩ := h V d ot C h81
  obtain ⟨P2, h12⟩ := CI_1 C2
  refine rOf (fun R9 hR9 => xCallAC (N := 5) (M2 := m_L_addWord) (pc2 := 4) (y := m_S_addWord) (n := 2) (ls2 := [some (eR 1), some (eI x), some (eR 81)]) (st2 := [eI 0, eR 81]) (st9 := [eI x, eR 1, eI 0, eR 81]) (V := V) (d := d) (r := 1) (bs := [eI x]) (E := 1) (p := 13) rfl rfl h1 rfl q2 (by rfl) hR9) ?_
  refine rOf (fun R9 hR9 => xSeg (N := 2) (r := some (.inl (some (eI 1)), (V2, d2))) rfl hR9) ?_
  exact rEnd ⟨V2, ot, d2, rfl, C2, o2, fun h => absurd h (by decide), fr2, by unfold dl; omega⟩
theorem kl_addWordX2 {a : eRow} {X X' : xT} {x v : Int} (h : SX m_S_addWord [some (eI x)] a X X' 0) : KL m_L_addWord [some (eI x)] a X a X' 2 v := by
  intro V d ot C h81
  obtain ⟨P1, h1⟩ := CI_1 C
  refine rKL ?_
  obtain ⟨V2, d2, q2, C2, o2, fr2, dd1, dd2⟩ := h V d ot C h81
  obtain ⟨P2, h12⟩ := CI_1 C2
  refine rOf (fun R9 hR9 => xCallAC (N := 5) (M2 := m_L_addWord) (pc2 := 4) (y := m_S_addWord) (n := 2) (ls2 := [some (eR 1), some (eI x), some (eR 81)]) (st2 := [eI 0, eR 81]) (st9 := [eI x, eR 1, eI 0, eR 81]) (V := V) (d := d) (r := 1) (bs := [eI x]) (E := 0) (p := 16) rfl rfl h1 rfl q2 (by rfl) hR9) ?_
  refine rOf (fun R9 hR9 => xSeg (N := 2) (r := some (.inl (some (eI 2)), (V2, d2))) rfl hR9) ?_
  exact rEnd ⟨V2, ot, d2, rfl, C2, o2, fun h => absurd h (by decide), fr2, by unfold dl; omega⟩
